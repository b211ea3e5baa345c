set_option maxRecDepth 1000000 in
set_option maxHeartbeats 4000000 in
theorem p1_c17 (x0 x1 x2 x3 x4 x5 x6 : Int32) : pmE pg (pg_X [x0, x1, x2, x3, x4, x5, x6]) pg_tyl pg_cl 41 318 999 [.retAddr 0, .ref 0, .ref 147, .int 0] [] fw_0 (fun q => q.1 = some (.int 1) ∧ q.2.2.1 = 0 ∧ q.2.2.2 = 0) := by
  refine pe_aload_n (j := 1) (by decide +kernel) rfl ?_
  refine pe_aloadX_n (j := 0) (by decide +kernel) rfl ?_
  refine pe_iload_n (j := 3) (by decide +kernel) rfl ?_
  refine pe_iconstv (n := 1) (v := 1) (by decide +kernel) (by decide +kernel) ?_
  refine pe_iadd (by decide +kernel) ?_
  refine pe_top (v := 1) (by decide +kernel) ?_
  refine pe_ialdXv (n := 7) (v := x1) (by decide +kernel) rfl rfl (by decide +kernel) rfl ?_
  refine pe_aloadX_n (j := 0) (by decide +kernel) rfl ?_
  refine pe_iload_n (j := 3) (by decide +kernel) rfl ?_
  refine pe_iconstv (n := 2) (v := 2) (by decide +kernel) (by decide +kernel) ?_
  refine pe_iadd (by decide +kernel) ?_
  refine pe_top (v := 2) (by decide +kernel) ?_
  refine pe_ialdXv (n := 7) (v := x2) (by decide +kernel) rfl rfl (by decide +kernel) rfl ?_
  refine pe_aloadX_n (j := 0) (by decide +kernel) rfl ?_
  refine pe_iload_n (j := 3) (by decide +kernel) rfl ?_
  refine pe_iconstv (n := 3) (v := 3) (by decide +kernel) (by decide +kernel) ?_
  refine pe_iadd (by decide +kernel) ?_
  refine pe_top (v := 3) (by decide +kernel) ?_
  refine pe_ialdXv (n := 7) (v := x3) (by decide +kernel) rfl rfl (by decide +kernel) rfl ?_
  refine pe_aloadX_n (j := 0) (by decide +kernel) rfl ?_
  refine pe_iload_n (j := 3) (by decide +kernel) rfl ?_
  refine pe_iconstv (n := 4) (v := 4) (by decide +kernel) (by decide +kernel) ?_
  refine pe_iadd (by decide +kernel) ?_
  refine pe_top (v := 4) (by decide +kernel) ?_
  refine pe_ialdXv (n := 7) (v := x4) (by decide +kernel) rfl rfl (by decide +kernel) rfl ?_
  refine pe_aloadX_n (j := 0) (by decide +kernel) rfl ?_
  refine pe_iload_n (j := 3) (by decide +kernel) rfl ?_
  refine pe_iconstv (n := 5) (v := 5) (by decide +kernel) (by decide +kernel) ?_
  refine pe_iadd (by decide +kernel) ?_
  refine pe_top (v := 5) (by decide +kernel) ?_
  refine pe_ialdXv (n := 7) (v := x5) (by decide +kernel) rfl rfl (by decide +kernel) rfl ?_
  refine pe_aloadX_n (j := 0) (by decide +kernel) rfl ?_
  refine pe_iload_n (j := 3) (by decide +kernel) rfl ?_
  refine pe_bipushv (n := 6) (v := 6) (by decide +kernel) (by decide +kernel) ?_
  refine pe_iadd (by decide +kernel) ?_
  refine pe_top (v := 6) (by decide +kernel) ?_
  refine pe_ialdXv (n := 7) (v := x6) (by decide +kernel) rfl rfl (by decide +kernel) rfl ?_
  refine pe_if_eq (off := 7) (t := 1038) (by decide +kernel) (by decide) rfl (fun h1 => ?_) (fun h1 => ?_)
  · skip
    refine pe_iconstv (n := 0) (v := 0) (by decide +kernel) (by decide +kernel) ?_
    refine pe_callV (j := 88) (mj := 139) (by decide +kernel) rfl ?_
    refine pe_aload_n (j := 0) (by decide +kernel) rfl ?_
    refine pe_iload_n (j := 1) (by decide +kernel) rfl ?_
    refine pe_iload_n (j := 2) (by decide +kernel) rfl ?_
    refine pe_iload_n (j := 3) (by decide +kernel) rfl ?_
    refine pe_iload (j := 4) (by decide +kernel) rfl ?_
    refine pe_iload (j := 5) (by decide +kernel) rfl ?_
    refine pe_callV (j := 262) (mj := 131) (by decide +kernel) rfl ?_
    refine pe_iload (j := 5) (by decide +kernel) rfl ?_
    refine pe_callS (j := 317) (mj := 132) (by decide +kernel) (by decide +kernel) rfl ?_
    refine pe_iload_n (j := 0) (by decide +kernel) rfl ?_
    refine pe_if_eq (off := 13) (t := 14) (by decide +kernel) (by decide) rfl (fun h2 => ?_) (fun h2 => ?_)
    · skip
      refine pe_iconstv (n := 1) (v := 1) (by decide +kernel) (by decide +kernel) ?_
      refine pe_goto (off := 4) (t := 19) (by decide +kernel) (by decide) rfl ?_
      refine pe_iret (by decide +kernel) rfl rfl ?_
      show pmE pg _ pg_tyl pg_cl _ 131 5 _ _ _ _
      refine pe_if_eq (off := 28) (t := 33) (by decide +kernel) (by decide) rfl (fun h3 => ?_) (fun h3 => ?_)
      · exact absurd h3 (by decide)
      refine pe_aload_n (j := 0) (by decide +kernel) rfl ?_
      refine pe_iload_n (j := 1) (by decide +kernel) rfl ?_
      refine pe_iload_n (j := 2) (by decide +kernel) rfl ?_
      refine pe_iload_n (j := 3) (by decide +kernel) rfl ?_
      refine pe_callV (j := 201) (mj := 98) (by decide +kernel) rfl ?_
      refine pe_aload_n (j := 0) (by decide +kernel) rfl ?_
      refine pe_get (j := 12) (ci := 11) (n := 0) (by decide +kernel) (by decide +kernel) rfl rfl ?_
      refine pe_iload_n (j := 1) (by decide +kernel) rfl ?_
      refine pe_callV (j := 111) (mj := 60) (by decide +kernel) rfl ?_
      refine pe_iload_n (j := 1) (by decide +kernel) rfl ?_
      refine pe_if_lt (off := 20) (t := 21) (by decide +kernel) (by decide) rfl (fun h4 => ?_) (fun h4 => ?_)
      · skip
        refine pe_null (by decide +kernel) ?_
        refine pe_nret (by decide +kernel) rfl ?_
        show pmE pg _ pg_tyl pg_cl _ 98 8 _ _ _ _
        refine pe_astoreN (j := 4) (ls' := [_, _, _, _, _, _, _]) (by decide +kernel) (Nat.le_of_ble_eq_true rfl) rfl ?_
        refine pe_aloadN (j := 4) (by decide +kernel) rfl ?_
        refine pe_ifnonnullN (off := 5) (by decide +kernel) ?_
        refine pe_iconstv (n := 0) (v := 0) (by decide +kernel) (by decide +kernel) ?_
        refine pe_iret (by decide +kernel) rfl rfl ?_
        show pmE pg _ pg_tyl pg_cl _ 131 15 _ _ _ _
        refine pe_if_eq (off := 18) (t := 33) (by decide +kernel) (by decide) rfl (fun h5 => ?_) (fun h5 => ?_)
        rotate_left
        · exact absurd h5 (by decide)
        refine pe_iconstv (n := 0) (v := 0) (by decide +kernel) (by decide +kernel) ?_
        refine pe_iret (by decide +kernel) rfl rfl ?_
        show pmE pg _ pg_tyl pg_cl _ 139 11 _ _ _ _
        refine pe_if_ne (off := 7) (t := 18) (by decide +kernel) (by decide) rfl (fun h6 => ?_) (fun h6 => ?_)
        · exact absurd h6 (by decide)
        refine pe_ldc2 (j := 274) (v := (-1)) (by decide +kernel) (by decide +kernel) ?_
        refine pe_lret (by decide +kernel) rfl ?_
        show pmE pg _ pg_tyl pg_cl _ 318 1042 _ _ _ _
        refine pe_aload_n (j := 2) (by decide +kernel) rfl ?_
        refine pe_aloadX_n (j := 0) (by decide +kernel) rfl ?_
        refine pe_iload_n (j := 3) (by decide +kernel) rfl ?_
        refine pe_iconstv (n := 1) (v := 1) (by decide +kernel) (by decide +kernel) ?_
        refine pe_iadd (by decide +kernel) ?_
        refine pe_top (v := 1) (by decide +kernel) ?_
        refine pe_ialdXv (n := 7) (v := x1) (by decide +kernel) rfl rfl (by decide +kernel) rfl ?_
        refine pe_aloadX_n (j := 0) (by decide +kernel) rfl ?_
        refine pe_iload_n (j := 3) (by decide +kernel) rfl ?_
        refine pe_iconstv (n := 2) (v := 2) (by decide +kernel) (by decide +kernel) ?_
        refine pe_iadd (by decide +kernel) ?_
        refine pe_top (v := 2) (by decide +kernel) ?_
        refine pe_ialdXv (n := 7) (v := x2) (by decide +kernel) rfl rfl (by decide +kernel) rfl ?_
        refine pe_aloadX_n (j := 0) (by decide +kernel) rfl ?_
        refine pe_iload_n (j := 3) (by decide +kernel) rfl ?_
        refine pe_iconstv (n := 3) (v := 3) (by decide +kernel) (by decide +kernel) ?_
        refine pe_iadd (by decide +kernel) ?_
        refine pe_top (v := 3) (by decide +kernel) ?_
        refine pe_ialdXv (n := 7) (v := x3) (by decide +kernel) rfl rfl (by decide +kernel) rfl ?_
        refine pe_aloadX_n (j := 0) (by decide +kernel) rfl ?_
        refine pe_iload_n (j := 3) (by decide +kernel) rfl ?_
        refine pe_iconstv (n := 4) (v := 4) (by decide +kernel) (by decide +kernel) ?_
        refine pe_iadd (by decide +kernel) ?_
        refine pe_top (v := 4) (by decide +kernel) ?_
        refine pe_ialdXv (n := 7) (v := x4) (by decide +kernel) rfl rfl (by decide +kernel) rfl ?_
        refine pe_aloadX_n (j := 0) (by decide +kernel) rfl ?_
        refine pe_iload_n (j := 3) (by decide +kernel) rfl ?_
        refine pe_iconstv (n := 5) (v := 5) (by decide +kernel) (by decide +kernel) ?_
        refine pe_iadd (by decide +kernel) ?_
        refine pe_top (v := 5) (by decide +kernel) ?_
        refine pe_ialdXv (n := 7) (v := x5) (by decide +kernel) rfl rfl (by decide +kernel) rfl ?_
        refine pe_aloadX_n (j := 0) (by decide +kernel) rfl ?_
        refine pe_iload_n (j := 3) (by decide +kernel) rfl ?_
        refine pe_bipushv (n := 6) (v := 6) (by decide +kernel) (by decide +kernel) ?_
        refine pe_iadd (by decide +kernel) ?_
        refine pe_top (v := 6) (by decide +kernel) ?_
        refine pe_ialdXv (n := 7) (v := x6) (by decide +kernel) rfl rfl (by decide +kernel) rfl ?_
        refine pe_if_eq (off := 7) (t := 1081) (by decide +kernel) (by decide) rfl (fun h7 => ?_) (fun h7 => ?_)
        · skip
          refine pe_iconstv (n := 0) (v := 0) (by decide +kernel) (by decide +kernel) ?_
          refine pe_callV (j := 92) (mj := 272) (by decide +kernel) rfl ?_
          refine pe_iload (j := 5) (by decide +kernel) rfl ?_
          refine pe_iconstv (n := 0) (v := 0) (by decide +kernel) (by decide +kernel) ?_
          refine pe_iconstv (n := 2) (v := 2) (by decide +kernel) (by decide +kernel) ?_
          refine pe_callS (j := 119) (mj := 199) (by decide +kernel) (by decide +kernel) rfl ?_
          refine pe_iload_n (j := 0) (by decide +kernel) rfl ?_
          refine pe_iload_n (j := 1) (by decide +kernel) rfl ?_
          refine pe_icmp_lt (off := 12) (t := 14) (by decide +kernel) (by decide) rfl (fun h8 => ?_) (fun h8 => ?_)
          · skip
            first | exact absurd rfl (by assumption) | (exfalso; simp only [Int32.lt_iff_toInt_lt, Int32.le_iff_toInt_le, ← Int32.toInt_inj, kl_m100000, kl_m3, kl_m2, kl_m1, kl_0, kl_1, kl_2, kl_3, kl_4, kl_5, kl_6, kl_7, kl_8, kl_9, kl_10, kl_11, kl_12, kl_13, kl_14, kl_15, kl_16, kl_17, kl_18, kl_19, kl_20, kl_21, kl_22, kl_23, kl_24, kl_25, kl_26, kl_27, kl_28, kl_29, kl_30, kl_99, kl_100, kl_600, kl_999] at *; omega)
          · skip
            refine pe_iload_n (j := 0) (by decide +kernel) rfl ?_
            refine pe_iload_n (j := 2) (by decide +kernel) rfl ?_
            refine pe_icmp_gt (off := 7) (t := 14) (by decide +kernel) (by decide) rfl (fun h9 => ?_) (fun h9 => ?_)
            · skip
              first | exact absurd rfl (by assumption) | (exfalso; simp only [Int32.lt_iff_toInt_lt, Int32.le_iff_toInt_le, ← Int32.toInt_inj, kl_m100000, kl_m3, kl_m2, kl_m1, kl_0, kl_1, kl_2, kl_3, kl_4, kl_5, kl_6, kl_7, kl_8, kl_9, kl_10, kl_11, kl_12, kl_13, kl_14, kl_15, kl_16, kl_17, kl_18, kl_19, kl_20, kl_21, kl_22, kl_23, kl_24, kl_25, kl_26, kl_27, kl_28, kl_29, kl_30, kl_99, kl_100, kl_600, kl_999] at *; omega)
            · skip
              refine pe_iconstv (n := 1) (v := 1) (by decide +kernel) (by decide +kernel) ?_
              refine pe_goto (off := 4) (t := 15) (by decide +kernel) (by decide) rfl ?_
              refine pe_iret (by decide +kernel) rfl rfl ?_
              show pmE pg _ pg_tyl pg_cl _ 272 7 _ _ _ _
              refine pe_if_eq (off := 33) (t := 40) (by decide +kernel) (by decide) rfl (fun h10 => ?_) (fun h10 => ?_)
              · exact absurd h10 (by decide)
              refine pe_aload_n (j := 0) (by decide +kernel) rfl ?_
              refine pe_iload_n (j := 1) (by decide +kernel) rfl ?_
              refine pe_iload_n (j := 2) (by decide +kernel) rfl ?_
              refine pe_iload_n (j := 3) (by decide +kernel) rfl ?_
              refine pe_iload (j := 4) (by decide +kernel) rfl ?_
              refine pe_callV (j := 303) (mj := 265) (by decide +kernel) rfl ?_
              refine pe_aload_n (j := 0) (by decide +kernel) rfl ?_
              refine pe_iload_n (j := 1) (by decide +kernel) rfl ?_
              refine pe_iload_n (j := 2) (by decide +kernel) rfl ?_
              refine pe_iload_n (j := 3) (by decide +kernel) rfl ?_
              refine pe_callV (j := 232) (mj := 246) (by decide +kernel) rfl ?_
              refine pe_aload_n (j := 0) (by decide +kernel) rfl ?_
              refine pe_iconstv (n := 0) (v := 0) (by decide +kernel) (by decide +kernel) ?_
              refine pe_iload_n (j := 1) (by decide +kernel) rfl ?_
              refine pe_callV (j := 153) (mj := 200) (by decide +kernel) rfl ?_
              refine pe_iload_n (j := 2) (by decide +kernel) rfl ?_
              refine pe_iconstv (n := 0) (v := 0) (by decide +kernel) (by decide +kernel) ?_
              refine pe_aload_n (j := 0) (by decide +kernel) rfl ?_
              refine pe_get (j := 7) (ci := 12) (n := 0) (by decide +kernel) (by decide +kernel) rfl rfl ?_
              refine pe_iload_n (j := 1) (by decide +kernel) rfl ?_
              refine pe_ialdv (n := 6760) (v := 0) (by decide +kernel) rfl rfl (by decide +kernel) rfl ?_
              refine pe_iconstv (n := 1) (v := 1) (by decide +kernel) (by decide +kernel) ?_
              refine pe_isub (by decide +kernel) ?_
              refine pe_top (v := (-1)) (by decide +kernel) ?_
              refine pe_callS (j := 119) (mj := 199) (by decide +kernel) (by decide +kernel) rfl ?_
              refine pe_iload_n (j := 0) (by decide +kernel) rfl ?_
              refine pe_iload_n (j := 1) (by decide +kernel) rfl ?_
              refine pe_icmp_lt (off := 12) (t := 14) (by decide +kernel) (by decide) rfl (fun h11 => ?_) (fun h11 => ?_)
              · skip
                refine pe_iconstv (n := 0) (v := 0) (by decide +kernel) (by decide +kernel) ?_
                refine pe_iret (by decide +kernel) rfl rfl ?_
                show pmE pg _ pg_tyl pg_cl _ 200 13 _ _ _ _
                refine pe_iret (by decide +kernel) rfl rfl ?_
                show pmE pg _ pg_tyl pg_cl _ 246 6 _ _ _ _
                refine pe_if_eq (off := 21) (t := 27) (by decide +kernel) (by decide) rfl (fun h12 => ?_) (fun h12 => ?_)
                rotate_left
                · exact absurd h12 (by decide)
                refine pe_iconstv (n := 0) (v := 0) (by decide +kernel) (by decide +kernel) ?_
                refine pe_iret (by decide +kernel) rfl rfl ?_
                show pmE pg _ pg_tyl pg_cl _ 265 7 _ _ _ _
                refine pe_if_eq (off := 21) (t := 28) (by decide +kernel) (by decide) rfl (fun h13 => ?_) (fun h13 => ?_)
                rotate_left
                · exact absurd h13 (by decide)
                refine pe_iconstv (n := 0) (v := 0) (by decide +kernel) (by decide +kernel) ?_
                refine pe_iret (by decide +kernel) rfl rfl ?_
                show pmE pg _ pg_tyl pg_cl _ 272 19 _ _ _ _
                refine pe_if_eq (off := 21) (t := 40) (by decide +kernel) (by decide) rfl (fun h14 => ?_) (fun h14 => ?_)
                rotate_left
                · exact absurd h14 (by decide)
                refine pe_ldc2 (j := 309) (v := (-1)) (by decide +kernel) (by decide +kernel) ?_
                refine pe_lret (by decide +kernel) rfl ?_
                show pmE pg _ pg_tyl pg_cl _ 318 1085 _ _ _ _
                refine pe_lcmp (by decide +kernel) ?_
                refine pe_top (v := 0) (by decide +kernel) ?_
                refine pe_if_eq (off := 1391) (t := 2477) (by decide +kernel) (by decide) rfl (fun h15 => ?_) (fun h15 => ?_)
                rotate_left
                · exact absurd h15 (by decide)
                refine pe_iincv (j := 3) (n := 7) (v := 7) (ls' := [_, _, _, _]) (by decide +kernel) rfl (by decide +kernel) rfl ?_
                refine pe_goto (off := (-2462)) (t := 18) (by decide +kernel) (by decide) rfl ?_
                refine pe_iload_n (j := 3) (by decide +kernel) rfl ?_
                refine pe_aloadX_n (j := 0) (by decide +kernel) rfl ?_
                refine pe_alenXv (v := 7) (by decide +kernel) rfl (by decide) rfl ?_
                refine pe_bipushv (n := 7) (v := 7) (by decide +kernel) (by decide +kernel) ?_
                refine pe_isub (by decide +kernel) ?_
                refine pe_top (v := 0) (by decide +kernel) ?_
                refine pe_icmp_gt (off := 2459) (t := 2483) (by decide +kernel) (by decide) rfl (fun h16 => ?_) (fun h16 => ?_)
                rotate_left
                · exact absurd h16 (by decide)
                refine pe_iconstv (n := 1) (v := 1) (by decide +kernel) (by decide +kernel) ?_
                refine pe_iret (by decide +kernel) rfl rfl ?_
                exact ⟨rfl, rfl, rfl⟩
              · skip
                first | exact absurd rfl (by assumption) | (exfalso; simp only [Int32.lt_iff_toInt_lt, Int32.le_iff_toInt_le, ← Int32.toInt_inj, kl_m100000, kl_m3, kl_m2, kl_m1, kl_0, kl_1, kl_2, kl_3, kl_4, kl_5, kl_6, kl_7, kl_8, kl_9, kl_10, kl_11, kl_12, kl_13, kl_14, kl_15, kl_16, kl_17, kl_18, kl_19, kl_20, kl_21, kl_22, kl_23, kl_24, kl_25, kl_26, kl_27, kl_28, kl_29, kl_30, kl_99, kl_100, kl_600, kl_999] at *; omega)
        · skip
          first | exact absurd rfl (by assumption) | (exfalso; simp only [Int32.lt_iff_toInt_lt, Int32.le_iff_toInt_le, ← Int32.toInt_inj, kl_m100000, kl_m3, kl_m2, kl_m1, kl_0, kl_1, kl_2, kl_3, kl_4, kl_5, kl_6, kl_7, kl_8, kl_9, kl_10, kl_11, kl_12, kl_13, kl_14, kl_15, kl_16, kl_17, kl_18, kl_19, kl_20, kl_21, kl_22, kl_23, kl_24, kl_25, kl_26, kl_27, kl_28, kl_29, kl_30, kl_99, kl_100, kl_600, kl_999] at *; omega)
      · skip
        refine pe_iload_n (j := 1) (by decide +kernel) rfl ?_
        refine pe_aload_n (j := 0) (by decide +kernel) rfl ?_
        refine pe_get (j := 33) (ci := 8) (n := 2) (by decide +kernel) (by decide +kernel) rfl rfl ?_
        refine pe_icmp_ge (off := 12) (t := 21) (by decide +kernel) (by decide) rfl (fun h17 => ?_) (fun h17 => ?_)
        · skip
          refine pe_null (by decide +kernel) ?_
          refine pe_nret (by decide +kernel) rfl ?_
          show pmE pg _ pg_tyl pg_cl _ 98 8 _ _ _ _
          refine pe_astoreN (j := 4) (ls' := [_, _, _, _, _, _, _]) (by decide +kernel) (Nat.le_of_ble_eq_true rfl) rfl ?_
          refine pe_aloadN (j := 4) (by decide +kernel) rfl ?_
          refine pe_ifnonnullN (off := 5) (by decide +kernel) ?_
          refine pe_iconstv (n := 0) (v := 0) (by decide +kernel) (by decide +kernel) ?_
          refine pe_iret (by decide +kernel) rfl rfl ?_
          show pmE pg _ pg_tyl pg_cl _ 131 15 _ _ _ _
          refine pe_if_eq (off := 18) (t := 33) (by decide +kernel) (by decide) rfl (fun h18 => ?_) (fun h18 => ?_)
          rotate_left
          · exact absurd h18 (by decide)
          refine pe_iconstv (n := 0) (v := 0) (by decide +kernel) (by decide +kernel) ?_
          refine pe_iret (by decide +kernel) rfl rfl ?_
          show pmE pg _ pg_tyl pg_cl _ 139 11 _ _ _ _
          refine pe_if_ne (off := 7) (t := 18) (by decide +kernel) (by decide) rfl (fun h19 => ?_) (fun h19 => ?_)
          · exact absurd h19 (by decide)
          refine pe_ldc2 (j := 274) (v := (-1)) (by decide +kernel) (by decide +kernel) ?_
          refine pe_lret (by decide +kernel) rfl ?_
          show pmE pg _ pg_tyl pg_cl _ 318 1042 _ _ _ _
          refine pe_aload_n (j := 2) (by decide +kernel) rfl ?_
          refine pe_aloadX_n (j := 0) (by decide +kernel) rfl ?_
          refine pe_iload_n (j := 3) (by decide +kernel) rfl ?_
          refine pe_iconstv (n := 1) (v := 1) (by decide +kernel) (by decide +kernel) ?_
          refine pe_iadd (by decide +kernel) ?_
          refine pe_top (v := 1) (by decide +kernel) ?_
          refine pe_ialdXv (n := 7) (v := x1) (by decide +kernel) rfl rfl (by decide +kernel) rfl ?_
          refine pe_aloadX_n (j := 0) (by decide +kernel) rfl ?_
          refine pe_iload_n (j := 3) (by decide +kernel) rfl ?_
          refine pe_iconstv (n := 2) (v := 2) (by decide +kernel) (by decide +kernel) ?_
          refine pe_iadd (by decide +kernel) ?_
          refine pe_top (v := 2) (by decide +kernel) ?_
          refine pe_ialdXv (n := 7) (v := x2) (by decide +kernel) rfl rfl (by decide +kernel) rfl ?_
          refine pe_aloadX_n (j := 0) (by decide +kernel) rfl ?_
          refine pe_iload_n (j := 3) (by decide +kernel) rfl ?_
          refine pe_iconstv (n := 3) (v := 3) (by decide +kernel) (by decide +kernel) ?_
          refine pe_iadd (by decide +kernel) ?_
          refine pe_top (v := 3) (by decide +kernel) ?_
          refine pe_ialdXv (n := 7) (v := x3) (by decide +kernel) rfl rfl (by decide +kernel) rfl ?_
          refine pe_aloadX_n (j := 0) (by decide +kernel) rfl ?_
          refine pe_iload_n (j := 3) (by decide +kernel) rfl ?_
          refine pe_iconstv (n := 4) (v := 4) (by decide +kernel) (by decide +kernel) ?_
          refine pe_iadd (by decide +kernel) ?_
          refine pe_top (v := 4) (by decide +kernel) ?_
          refine pe_ialdXv (n := 7) (v := x4) (by decide +kernel) rfl rfl (by decide +kernel) rfl ?_
          refine pe_aloadX_n (j := 0) (by decide +kernel) rfl ?_
          refine pe_iload_n (j := 3) (by decide +kernel) rfl ?_
          refine pe_iconstv (n := 5) (v := 5) (by decide +kernel) (by decide +kernel) ?_
          refine pe_iadd (by decide +kernel) ?_
          refine pe_top (v := 5) (by decide +kernel) ?_
          refine pe_ialdXv (n := 7) (v := x5) (by decide +kernel) rfl rfl (by decide +kernel) rfl ?_
          refine pe_aloadX_n (j := 0) (by decide +kernel) rfl ?_
          refine pe_iload_n (j := 3) (by decide +kernel) rfl ?_
          refine pe_bipushv (n := 6) (v := 6) (by decide +kernel) (by decide +kernel) ?_
          refine pe_iadd (by decide +kernel) ?_
          refine pe_top (v := 6) (by decide +kernel) ?_
          refine pe_ialdXv (n := 7) (v := x6) (by decide +kernel) rfl rfl (by decide +kernel) rfl ?_
          refine pe_if_eq (off := 7) (t := 1081) (by decide +kernel) (by decide) rfl (fun h20 => ?_) (fun h20 => ?_)
          · skip
            refine pe_iconstv (n := 0) (v := 0) (by decide +kernel) (by decide +kernel) ?_
            refine pe_callV (j := 92) (mj := 272) (by decide +kernel) rfl ?_
            refine pe_iload (j := 5) (by decide +kernel) rfl ?_
            refine pe_iconstv (n := 0) (v := 0) (by decide +kernel) (by decide +kernel) ?_
            refine pe_iconstv (n := 2) (v := 2) (by decide +kernel) (by decide +kernel) ?_
            refine pe_callS (j := 119) (mj := 199) (by decide +kernel) (by decide +kernel) rfl ?_
            refine pe_iload_n (j := 0) (by decide +kernel) rfl ?_
            refine pe_iload_n (j := 1) (by decide +kernel) rfl ?_
            refine pe_icmp_lt (off := 12) (t := 14) (by decide +kernel) (by decide) rfl (fun h21 => ?_) (fun h21 => ?_)
            · skip
              first | exact absurd rfl (by assumption) | (exfalso; simp only [Int32.lt_iff_toInt_lt, Int32.le_iff_toInt_le, ← Int32.toInt_inj, kl_m100000, kl_m3, kl_m2, kl_m1, kl_0, kl_1, kl_2, kl_3, kl_4, kl_5, kl_6, kl_7, kl_8, kl_9, kl_10, kl_11, kl_12, kl_13, kl_14, kl_15, kl_16, kl_17, kl_18, kl_19, kl_20, kl_21, kl_22, kl_23, kl_24, kl_25, kl_26, kl_27, kl_28, kl_29, kl_30, kl_99, kl_100, kl_600, kl_999] at *; omega)
            · skip
              refine pe_iload_n (j := 0) (by decide +kernel) rfl ?_
              refine pe_iload_n (j := 2) (by decide +kernel) rfl ?_
              refine pe_icmp_gt (off := 7) (t := 14) (by decide +kernel) (by decide) rfl (fun h22 => ?_) (fun h22 => ?_)
              · skip
                first | exact absurd rfl (by assumption) | (exfalso; simp only [Int32.lt_iff_toInt_lt, Int32.le_iff_toInt_le, ← Int32.toInt_inj, kl_m100000, kl_m3, kl_m2, kl_m1, kl_0, kl_1, kl_2, kl_3, kl_4, kl_5, kl_6, kl_7, kl_8, kl_9, kl_10, kl_11, kl_12, kl_13, kl_14, kl_15, kl_16, kl_17, kl_18, kl_19, kl_20, kl_21, kl_22, kl_23, kl_24, kl_25, kl_26, kl_27, kl_28, kl_29, kl_30, kl_99, kl_100, kl_600, kl_999] at *; omega)
              · skip
                refine pe_iconstv (n := 1) (v := 1) (by decide +kernel) (by decide +kernel) ?_
                refine pe_goto (off := 4) (t := 15) (by decide +kernel) (by decide) rfl ?_
                refine pe_iret (by decide +kernel) rfl rfl ?_
                show pmE pg _ pg_tyl pg_cl _ 272 7 _ _ _ _
                refine pe_if_eq (off := 33) (t := 40) (by decide +kernel) (by decide) rfl (fun h23 => ?_) (fun h23 => ?_)
                · exact absurd h23 (by decide)
                refine pe_aload_n (j := 0) (by decide +kernel) rfl ?_
                refine pe_iload_n (j := 1) (by decide +kernel) rfl ?_
                refine pe_iload_n (j := 2) (by decide +kernel) rfl ?_
                refine pe_iload_n (j := 3) (by decide +kernel) rfl ?_
                refine pe_iload (j := 4) (by decide +kernel) rfl ?_
                refine pe_callV (j := 303) (mj := 265) (by decide +kernel) rfl ?_
                refine pe_aload_n (j := 0) (by decide +kernel) rfl ?_
                refine pe_iload_n (j := 1) (by decide +kernel) rfl ?_
                refine pe_iload_n (j := 2) (by decide +kernel) rfl ?_
                refine pe_iload_n (j := 3) (by decide +kernel) rfl ?_
                refine pe_callV (j := 232) (mj := 246) (by decide +kernel) rfl ?_
                refine pe_aload_n (j := 0) (by decide +kernel) rfl ?_
                refine pe_iconstv (n := 0) (v := 0) (by decide +kernel) (by decide +kernel) ?_
                refine pe_iload_n (j := 1) (by decide +kernel) rfl ?_
                refine pe_callV (j := 153) (mj := 200) (by decide +kernel) rfl ?_
                refine pe_iload_n (j := 2) (by decide +kernel) rfl ?_
                refine pe_iconstv (n := 0) (v := 0) (by decide +kernel) (by decide +kernel) ?_
                refine pe_aload_n (j := 0) (by decide +kernel) rfl ?_
                refine pe_get (j := 7) (ci := 12) (n := 0) (by decide +kernel) (by decide +kernel) rfl rfl ?_
                refine pe_iload_n (j := 1) (by decide +kernel) rfl ?_
                refine pe_ialdv (n := 6760) (v := 0) (by decide +kernel) rfl rfl (by decide +kernel) rfl ?_
                refine pe_iconstv (n := 1) (v := 1) (by decide +kernel) (by decide +kernel) ?_
                refine pe_isub (by decide +kernel) ?_
                refine pe_top (v := (-1)) (by decide +kernel) ?_
                refine pe_callS (j := 119) (mj := 199) (by decide +kernel) (by decide +kernel) rfl ?_
                refine pe_iload_n (j := 0) (by decide +kernel) rfl ?_
                refine pe_iload_n (j := 1) (by decide +kernel) rfl ?_
                refine pe_icmp_lt (off := 12) (t := 14) (by decide +kernel) (by decide) rfl (fun h24 => ?_) (fun h24 => ?_)
                · skip
                  first | exact absurd rfl (by assumption) | (exfalso; simp only [Int32.lt_iff_toInt_lt, Int32.le_iff_toInt_le, ← Int32.toInt_inj, kl_m100000, kl_m3, kl_m2, kl_m1, kl_0, kl_1, kl_2, kl_3, kl_4, kl_5, kl_6, kl_7, kl_8, kl_9, kl_10, kl_11, kl_12, kl_13, kl_14, kl_15, kl_16, kl_17, kl_18, kl_19, kl_20, kl_21, kl_22, kl_23, kl_24, kl_25, kl_26, kl_27, kl_28, kl_29, kl_30, kl_99, kl_100, kl_600, kl_999] at *; omega)
                · skip
                  refine pe_iload_n (j := 0) (by decide +kernel) rfl ?_
                  refine pe_iload_n (j := 2) (by decide +kernel) rfl ?_
                  refine pe_icmp_gt (off := 7) (t := 14) (by decide +kernel) (by decide) rfl (fun h25 => ?_) (fun h25 => ?_)
                  · skip
                    refine pe_iconstv (n := 0) (v := 0) (by decide +kernel) (by decide +kernel) ?_
                    refine pe_iret (by decide +kernel) rfl rfl ?_
                    show pmE pg _ pg_tyl pg_cl _ 200 13 _ _ _ _
                    refine pe_iret (by decide +kernel) rfl rfl ?_
                    show pmE pg _ pg_tyl pg_cl _ 246 6 _ _ _ _
                    refine pe_if_eq (off := 21) (t := 27) (by decide +kernel) (by decide) rfl (fun h26 => ?_) (fun h26 => ?_)
                    rotate_left
                    · exact absurd h26 (by decide)
                    refine pe_iconstv (n := 0) (v := 0) (by decide +kernel) (by decide +kernel) ?_
                    refine pe_iret (by decide +kernel) rfl rfl ?_
                    show pmE pg _ pg_tyl pg_cl _ 265 7 _ _ _ _
                    refine pe_if_eq (off := 21) (t := 28) (by decide +kernel) (by decide) rfl (fun h27 => ?_) (fun h27 => ?_)
                    rotate_left
                    · exact absurd h27 (by decide)
                    refine pe_iconstv (n := 0) (v := 0) (by decide +kernel) (by decide +kernel) ?_
                    refine pe_iret (by decide +kernel) rfl rfl ?_
                    show pmE pg _ pg_tyl pg_cl _ 272 19 _ _ _ _
                    refine pe_if_eq (off := 21) (t := 40) (by decide +kernel) (by decide) rfl (fun h28 => ?_) (fun h28 => ?_)
                    rotate_left
                    · exact absurd h28 (by decide)
                    refine pe_ldc2 (j := 309) (v := (-1)) (by decide +kernel) (by decide +kernel) ?_
                    refine pe_lret (by decide +kernel) rfl ?_
                    show pmE pg _ pg_tyl pg_cl _ 318 1085 _ _ _ _
                    refine pe_lcmp (by decide +kernel) ?_
                    refine pe_top (v := 0) (by decide +kernel) ?_
                    refine pe_if_eq (off := 1391) (t := 2477) (by decide +kernel) (by decide) rfl (fun h29 => ?_) (fun h29 => ?_)
                    rotate_left
                    · exact absurd h29 (by decide)
                    refine pe_iincv (j := 3) (n := 7) (v := 7) (ls' := [_, _, _, _]) (by decide +kernel) rfl (by decide +kernel) rfl ?_
                    refine pe_goto (off := (-2462)) (t := 18) (by decide +kernel) (by decide) rfl ?_
                    refine pe_iload_n (j := 3) (by decide +kernel) rfl ?_
                    refine pe_aloadX_n (j := 0) (by decide +kernel) rfl ?_
                    refine pe_alenXv (v := 7) (by decide +kernel) rfl (by decide) rfl ?_
                    refine pe_bipushv (n := 7) (v := 7) (by decide +kernel) (by decide +kernel) ?_
                    refine pe_isub (by decide +kernel) ?_
                    refine pe_top (v := 0) (by decide +kernel) ?_
                    refine pe_icmp_gt (off := 2459) (t := 2483) (by decide +kernel) (by decide) rfl (fun h30 => ?_) (fun h30 => ?_)
                    rotate_left
                    · exact absurd h30 (by decide)
                    refine pe_iconstv (n := 1) (v := 1) (by decide +kernel) (by decide +kernel) ?_
                    refine pe_iret (by decide +kernel) rfl rfl ?_
                    exact ⟨rfl, rfl, rfl⟩
                  · skip
                    first | exact absurd rfl (by assumption) | (exfalso; simp only [Int32.lt_iff_toInt_lt, Int32.le_iff_toInt_le, ← Int32.toInt_inj, kl_m100000, kl_m3, kl_m2, kl_m1, kl_0, kl_1, kl_2, kl_3, kl_4, kl_5, kl_6, kl_7, kl_8, kl_9, kl_10, kl_11, kl_12, kl_13, kl_14, kl_15, kl_16, kl_17, kl_18, kl_19, kl_20, kl_21, kl_22, kl_23, kl_24, kl_25, kl_26, kl_27, kl_28, kl_29, kl_30, kl_99, kl_100, kl_600, kl_999] at *; omega)
          · skip
            first | exact absurd rfl (by assumption) | (exfalso; simp only [Int32.lt_iff_toInt_lt, Int32.le_iff_toInt_le, ← Int32.toInt_inj, kl_m100000, kl_m3, kl_m2, kl_m1, kl_0, kl_1, kl_2, kl_3, kl_4, kl_5, kl_6, kl_7, kl_8, kl_9, kl_10, kl_11, kl_12, kl_13, kl_14, kl_15, kl_16, kl_17, kl_18, kl_19, kl_20, kl_21, kl_22, kl_23, kl_24, kl_25, kl_26, kl_27, kl_28, kl_29, kl_30, kl_99, kl_100, kl_600, kl_999] at *; omega)
        · skip
          first | exact absurd rfl (by assumption) | (exfalso; simp only [Int32.lt_iff_toInt_lt, Int32.le_iff_toInt_le, ← Int32.toInt_inj, kl_m100000, kl_m3, kl_m2, kl_m1, kl_0, kl_1, kl_2, kl_3, kl_4, kl_5, kl_6, kl_7, kl_8, kl_9, kl_10, kl_11, kl_12, kl_13, kl_14, kl_15, kl_16, kl_17, kl_18, kl_19, kl_20, kl_21, kl_22, kl_23, kl_24, kl_25, kl_26, kl_27, kl_28, kl_29, kl_30, kl_99, kl_100, kl_600, kl_999] at *; omega)
    · skip
      refine pe_iload_n (j := 0) (by decide +kernel) rfl ?_
      refine pe_iconstv (n := 1) (v := 1) (by decide +kernel) (by decide +kernel) ?_
      refine pe_icmp_eq (off := 8) (t := 14) (by decide +kernel) (by decide) rfl (fun h31 => ?_) (fun h31 => ?_)
      · skip
        refine pe_iconstv (n := 1) (v := 1) (by decide +kernel) (by decide +kernel) ?_
        refine pe_goto (off := 4) (t := 19) (by decide +kernel) (by decide) rfl ?_
        refine pe_iret (by decide +kernel) rfl rfl ?_
        show pmE pg _ pg_tyl pg_cl _ 131 5 _ _ _ _
        refine pe_if_eq (off := 28) (t := 33) (by decide +kernel) (by decide) rfl (fun h32 => ?_) (fun h32 => ?_)
        · exact absurd h32 (by decide)
        refine pe_aload_n (j := 0) (by decide +kernel) rfl ?_
        refine pe_iload_n (j := 1) (by decide +kernel) rfl ?_
        refine pe_iload_n (j := 2) (by decide +kernel) rfl ?_
        refine pe_iload_n (j := 3) (by decide +kernel) rfl ?_
        refine pe_callV (j := 201) (mj := 98) (by decide +kernel) rfl ?_
        refine pe_aload_n (j := 0) (by decide +kernel) rfl ?_
        refine pe_get (j := 12) (ci := 11) (n := 0) (by decide +kernel) (by decide +kernel) rfl rfl ?_
        refine pe_iload_n (j := 1) (by decide +kernel) rfl ?_
        refine pe_callV (j := 111) (mj := 60) (by decide +kernel) rfl ?_
        refine pe_iload_n (j := 1) (by decide +kernel) rfl ?_
        refine pe_if_lt (off := 20) (t := 21) (by decide +kernel) (by decide) rfl (fun h33 => ?_) (fun h33 => ?_)
        · skip
          refine pe_null (by decide +kernel) ?_
          refine pe_nret (by decide +kernel) rfl ?_
          show pmE pg _ pg_tyl pg_cl _ 98 8 _ _ _ _
          refine pe_astoreN (j := 4) (ls' := [_, _, _, _, _, _, _]) (by decide +kernel) (Nat.le_of_ble_eq_true rfl) rfl ?_
          refine pe_aloadN (j := 4) (by decide +kernel) rfl ?_
          refine pe_ifnonnullN (off := 5) (by decide +kernel) ?_
          refine pe_iconstv (n := 0) (v := 0) (by decide +kernel) (by decide +kernel) ?_
          refine pe_iret (by decide +kernel) rfl rfl ?_
          show pmE pg _ pg_tyl pg_cl _ 131 15 _ _ _ _
          refine pe_if_eq (off := 18) (t := 33) (by decide +kernel) (by decide) rfl (fun h34 => ?_) (fun h34 => ?_)
          rotate_left
          · exact absurd h34 (by decide)
          refine pe_iconstv (n := 0) (v := 0) (by decide +kernel) (by decide +kernel) ?_
          refine pe_iret (by decide +kernel) rfl rfl ?_
          show pmE pg _ pg_tyl pg_cl _ 139 11 _ _ _ _
          refine pe_if_ne (off := 7) (t := 18) (by decide +kernel) (by decide) rfl (fun h35 => ?_) (fun h35 => ?_)
          · exact absurd h35 (by decide)
          refine pe_ldc2 (j := 274) (v := (-1)) (by decide +kernel) (by decide +kernel) ?_
          refine pe_lret (by decide +kernel) rfl ?_
          show pmE pg _ pg_tyl pg_cl _ 318 1042 _ _ _ _
          refine pe_aload_n (j := 2) (by decide +kernel) rfl ?_
          refine pe_aloadX_n (j := 0) (by decide +kernel) rfl ?_
          refine pe_iload_n (j := 3) (by decide +kernel) rfl ?_
          refine pe_iconstv (n := 1) (v := 1) (by decide +kernel) (by decide +kernel) ?_
          refine pe_iadd (by decide +kernel) ?_
          refine pe_top (v := 1) (by decide +kernel) ?_
          refine pe_ialdXv (n := 7) (v := x1) (by decide +kernel) rfl rfl (by decide +kernel) rfl ?_
          refine pe_aloadX_n (j := 0) (by decide +kernel) rfl ?_
          refine pe_iload_n (j := 3) (by decide +kernel) rfl ?_
          refine pe_iconstv (n := 2) (v := 2) (by decide +kernel) (by decide +kernel) ?_
          refine pe_iadd (by decide +kernel) ?_
          refine pe_top (v := 2) (by decide +kernel) ?_
          refine pe_ialdXv (n := 7) (v := x2) (by decide +kernel) rfl rfl (by decide +kernel) rfl ?_
          refine pe_aloadX_n (j := 0) (by decide +kernel) rfl ?_
          refine pe_iload_n (j := 3) (by decide +kernel) rfl ?_
          refine pe_iconstv (n := 3) (v := 3) (by decide +kernel) (by decide +kernel) ?_
          refine pe_iadd (by decide +kernel) ?_
          refine pe_top (v := 3) (by decide +kernel) ?_
          refine pe_ialdXv (n := 7) (v := x3) (by decide +kernel) rfl rfl (by decide +kernel) rfl ?_
          refine pe_aloadX_n (j := 0) (by decide +kernel) rfl ?_
          refine pe_iload_n (j := 3) (by decide +kernel) rfl ?_
          refine pe_iconstv (n := 4) (v := 4) (by decide +kernel) (by decide +kernel) ?_
          refine pe_iadd (by decide +kernel) ?_
          refine pe_top (v := 4) (by decide +kernel) ?_
          refine pe_ialdXv (n := 7) (v := x4) (by decide +kernel) rfl rfl (by decide +kernel) rfl ?_
          refine pe_aloadX_n (j := 0) (by decide +kernel) rfl ?_
          refine pe_iload_n (j := 3) (by decide +kernel) rfl ?_
          refine pe_iconstv (n := 5) (v := 5) (by decide +kernel) (by decide +kernel) ?_
          refine pe_iadd (by decide +kernel) ?_
          refine pe_top (v := 5) (by decide +kernel) ?_
          refine pe_ialdXv (n := 7) (v := x5) (by decide +kernel) rfl rfl (by decide +kernel) rfl ?_
          refine pe_aloadX_n (j := 0) (by decide +kernel) rfl ?_
          refine pe_iload_n (j := 3) (by decide +kernel) rfl ?_
          refine pe_bipushv (n := 6) (v := 6) (by decide +kernel) (by decide +kernel) ?_
          refine pe_iadd (by decide +kernel) ?_
          refine pe_top (v := 6) (by decide +kernel) ?_
          refine pe_ialdXv (n := 7) (v := x6) (by decide +kernel) rfl rfl (by decide +kernel) rfl ?_
          refine pe_if_eq (off := 7) (t := 1081) (by decide +kernel) (by decide) rfl (fun h36 => ?_) (fun h36 => ?_)
          · skip
            refine pe_iconstv (n := 0) (v := 0) (by decide +kernel) (by decide +kernel) ?_
            refine pe_callV (j := 92) (mj := 272) (by decide +kernel) rfl ?_
            refine pe_iload (j := 5) (by decide +kernel) rfl ?_
            refine pe_iconstv (n := 0) (v := 0) (by decide +kernel) (by decide +kernel) ?_
            refine pe_iconstv (n := 2) (v := 2) (by decide +kernel) (by decide +kernel) ?_
            refine pe_callS (j := 119) (mj := 199) (by decide +kernel) (by decide +kernel) rfl ?_
            refine pe_iload_n (j := 0) (by decide +kernel) rfl ?_
            refine pe_iload_n (j := 1) (by decide +kernel) rfl ?_
            refine pe_icmp_lt (off := 12) (t := 14) (by decide +kernel) (by decide) rfl (fun h37 => ?_) (fun h37 => ?_)
            · skip
              first | exact absurd rfl (by assumption) | (exfalso; simp only [Int32.lt_iff_toInt_lt, Int32.le_iff_toInt_le, ← Int32.toInt_inj, kl_m100000, kl_m3, kl_m2, kl_m1, kl_0, kl_1, kl_2, kl_3, kl_4, kl_5, kl_6, kl_7, kl_8, kl_9, kl_10, kl_11, kl_12, kl_13, kl_14, kl_15, kl_16, kl_17, kl_18, kl_19, kl_20, kl_21, kl_22, kl_23, kl_24, kl_25, kl_26, kl_27, kl_28, kl_29, kl_30, kl_99, kl_100, kl_600, kl_999] at *; omega)
            · skip
              refine pe_iload_n (j := 0) (by decide +kernel) rfl ?_
              refine pe_iload_n (j := 2) (by decide +kernel) rfl ?_
              refine pe_icmp_gt (off := 7) (t := 14) (by decide +kernel) (by decide) rfl (fun h38 => ?_) (fun h38 => ?_)
              · skip
                first | exact absurd rfl (by assumption) | (exfalso; simp only [Int32.lt_iff_toInt_lt, Int32.le_iff_toInt_le, ← Int32.toInt_inj, kl_m100000, kl_m3, kl_m2, kl_m1, kl_0, kl_1, kl_2, kl_3, kl_4, kl_5, kl_6, kl_7, kl_8, kl_9, kl_10, kl_11, kl_12, kl_13, kl_14, kl_15, kl_16, kl_17, kl_18, kl_19, kl_20, kl_21, kl_22, kl_23, kl_24, kl_25, kl_26, kl_27, kl_28, kl_29, kl_30, kl_99, kl_100, kl_600, kl_999] at *; omega)
              · skip
                refine pe_iconstv (n := 1) (v := 1) (by decide +kernel) (by decide +kernel) ?_
                refine pe_goto (off := 4) (t := 15) (by decide +kernel) (by decide) rfl ?_
                refine pe_iret (by decide +kernel) rfl rfl ?_
                show pmE pg _ pg_tyl pg_cl _ 272 7 _ _ _ _
                refine pe_if_eq (off := 33) (t := 40) (by decide +kernel) (by decide) rfl (fun h39 => ?_) (fun h39 => ?_)
                · exact absurd h39 (by decide)
                refine pe_aload_n (j := 0) (by decide +kernel) rfl ?_
                refine pe_iload_n (j := 1) (by decide +kernel) rfl ?_
                refine pe_iload_n (j := 2) (by decide +kernel) rfl ?_
                refine pe_iload_n (j := 3) (by decide +kernel) rfl ?_
                refine pe_iload (j := 4) (by decide +kernel) rfl ?_
                refine pe_callV (j := 303) (mj := 265) (by decide +kernel) rfl ?_
                refine pe_aload_n (j := 0) (by decide +kernel) rfl ?_
                refine pe_iload_n (j := 1) (by decide +kernel) rfl ?_
                refine pe_iload_n (j := 2) (by decide +kernel) rfl ?_
                refine pe_iload_n (j := 3) (by decide +kernel) rfl ?_
                refine pe_callV (j := 232) (mj := 246) (by decide +kernel) rfl ?_
                refine pe_aload_n (j := 0) (by decide +kernel) rfl ?_
                refine pe_iconstv (n := 0) (v := 0) (by decide +kernel) (by decide +kernel) ?_
                refine pe_iload_n (j := 1) (by decide +kernel) rfl ?_
                refine pe_callV (j := 153) (mj := 200) (by decide +kernel) rfl ?_
                refine pe_iload_n (j := 2) (by decide +kernel) rfl ?_
                refine pe_iconstv (n := 0) (v := 0) (by decide +kernel) (by decide +kernel) ?_
                refine pe_aload_n (j := 0) (by decide +kernel) rfl ?_
                refine pe_get (j := 7) (ci := 12) (n := 0) (by decide +kernel) (by decide +kernel) rfl rfl ?_
                refine pe_iload_n (j := 1) (by decide +kernel) rfl ?_
                refine pe_ialdv (n := 6760) (v := 0) (by decide +kernel) rfl rfl (by decide +kernel) rfl ?_
                refine pe_iconstv (n := 1) (v := 1) (by decide +kernel) (by decide +kernel) ?_
                refine pe_isub (by decide +kernel) ?_
                refine pe_top (v := (-1)) (by decide +kernel) ?_
                refine pe_callS (j := 119) (mj := 199) (by decide +kernel) (by decide +kernel) rfl ?_
                refine pe_iload_n (j := 0) (by decide +kernel) rfl ?_
                refine pe_iload_n (j := 1) (by decide +kernel) rfl ?_
                refine pe_icmp_lt (off := 12) (t := 14) (by decide +kernel) (by decide) rfl (fun h40 => ?_) (fun h40 => ?_)
                · skip
                  refine pe_iconstv (n := 0) (v := 0) (by decide +kernel) (by decide +kernel) ?_
                  refine pe_iret (by decide +kernel) rfl rfl ?_
                  show pmE pg _ pg_tyl pg_cl _ 200 13 _ _ _ _
                  refine pe_iret (by decide +kernel) rfl rfl ?_
                  show pmE pg _ pg_tyl pg_cl _ 246 6 _ _ _ _
                  refine pe_if_eq (off := 21) (t := 27) (by decide +kernel) (by decide) rfl (fun h41 => ?_) (fun h41 => ?_)
                  rotate_left
                  · exact absurd h41 (by decide)
                  refine pe_iconstv (n := 0) (v := 0) (by decide +kernel) (by decide +kernel) ?_
                  refine pe_iret (by decide +kernel) rfl rfl ?_
                  show pmE pg _ pg_tyl pg_cl _ 265 7 _ _ _ _
                  refine pe_if_eq (off := 21) (t := 28) (by decide +kernel) (by decide) rfl (fun h42 => ?_) (fun h42 => ?_)
                  rotate_left
                  · exact absurd h42 (by decide)
                  refine pe_iconstv (n := 0) (v := 0) (by decide +kernel) (by decide +kernel) ?_
                  refine pe_iret (by decide +kernel) rfl rfl ?_
                  show pmE pg _ pg_tyl pg_cl _ 272 19 _ _ _ _
                  refine pe_if_eq (off := 21) (t := 40) (by decide +kernel) (by decide) rfl (fun h43 => ?_) (fun h43 => ?_)
                  rotate_left
                  · exact absurd h43 (by decide)
                  refine pe_ldc2 (j := 309) (v := (-1)) (by decide +kernel) (by decide +kernel) ?_
                  refine pe_lret (by decide +kernel) rfl ?_
                  show pmE pg _ pg_tyl pg_cl _ 318 1085 _ _ _ _
                  refine pe_lcmp (by decide +kernel) ?_
                  refine pe_top (v := 0) (by decide +kernel) ?_
                  refine pe_if_eq (off := 1391) (t := 2477) (by decide +kernel) (by decide) rfl (fun h44 => ?_) (fun h44 => ?_)
                  rotate_left
                  · exact absurd h44 (by decide)
                  refine pe_iincv (j := 3) (n := 7) (v := 7) (ls' := [_, _, _, _]) (by decide +kernel) rfl (by decide +kernel) rfl ?_
                  refine pe_goto (off := (-2462)) (t := 18) (by decide +kernel) (by decide) rfl ?_
                  refine pe_iload_n (j := 3) (by decide +kernel) rfl ?_
                  refine pe_aloadX_n (j := 0) (by decide +kernel) rfl ?_
                  refine pe_alenXv (v := 7) (by decide +kernel) rfl (by decide) rfl ?_
                  refine pe_bipushv (n := 7) (v := 7) (by decide +kernel) (by decide +kernel) ?_
                  refine pe_isub (by decide +kernel) ?_
                  refine pe_top (v := 0) (by decide +kernel) ?_
                  refine pe_icmp_gt (off := 2459) (t := 2483) (by decide +kernel) (by decide) rfl (fun h45 => ?_) (fun h45 => ?_)
                  rotate_left
                  · exact absurd h45 (by decide)
                  refine pe_iconstv (n := 1) (v := 1) (by decide +kernel) (by decide +kernel) ?_
                  refine pe_iret (by decide +kernel) rfl rfl ?_
                  exact ⟨rfl, rfl, rfl⟩
                · skip
                  first | exact absurd rfl (by assumption) | (exfalso; simp only [Int32.lt_iff_toInt_lt, Int32.le_iff_toInt_le, ← Int32.toInt_inj, kl_m100000, kl_m3, kl_m2, kl_m1, kl_0, kl_1, kl_2, kl_3, kl_4, kl_5, kl_6, kl_7, kl_8, kl_9, kl_10, kl_11, kl_12, kl_13, kl_14, kl_15, kl_16, kl_17, kl_18, kl_19, kl_20, kl_21, kl_22, kl_23, kl_24, kl_25, kl_26, kl_27, kl_28, kl_29, kl_30, kl_99, kl_100, kl_600, kl_999] at *; omega)
          · skip
            first | exact absurd rfl (by assumption) | (exfalso; simp only [Int32.lt_iff_toInt_lt, Int32.le_iff_toInt_le, ← Int32.toInt_inj, kl_m100000, kl_m3, kl_m2, kl_m1, kl_0, kl_1, kl_2, kl_3, kl_4, kl_5, kl_6, kl_7, kl_8, kl_9, kl_10, kl_11, kl_12, kl_13, kl_14, kl_15, kl_16, kl_17, kl_18, kl_19, kl_20, kl_21, kl_22, kl_23, kl_24, kl_25, kl_26, kl_27, kl_28, kl_29, kl_30, kl_99, kl_100, kl_600, kl_999] at *; omega)
        · skip
          refine pe_iload_n (j := 1) (by decide +kernel) rfl ?_
          refine pe_aload_n (j := 0) (by decide +kernel) rfl ?_
          refine pe_get (j := 33) (ci := 8) (n := 2) (by decide +kernel) (by decide +kernel) rfl rfl ?_
          refine pe_icmp_ge (off := 12) (t := 21) (by decide +kernel) (by decide) rfl (fun h46 => ?_) (fun h46 => ?_)
          · skip
            refine pe_null (by decide +kernel) ?_
            refine pe_nret (by decide +kernel) rfl ?_
            show pmE pg _ pg_tyl pg_cl _ 98 8 _ _ _ _
            refine pe_astoreN (j := 4) (ls' := [_, _, _, _, _, _, _]) (by decide +kernel) (Nat.le_of_ble_eq_true rfl) rfl ?_
            refine pe_aloadN (j := 4) (by decide +kernel) rfl ?_
            refine pe_ifnonnullN (off := 5) (by decide +kernel) ?_
            refine pe_iconstv (n := 0) (v := 0) (by decide +kernel) (by decide +kernel) ?_
            refine pe_iret (by decide +kernel) rfl rfl ?_
            show pmE pg _ pg_tyl pg_cl _ 131 15 _ _ _ _
            refine pe_if_eq (off := 18) (t := 33) (by decide +kernel) (by decide) rfl (fun h47 => ?_) (fun h47 => ?_)
            rotate_left
            · exact absurd h47 (by decide)
            refine pe_iconstv (n := 0) (v := 0) (by decide +kernel) (by decide +kernel) ?_
            refine pe_iret (by decide +kernel) rfl rfl ?_
            show pmE pg _ pg_tyl pg_cl _ 139 11 _ _ _ _
            refine pe_if_ne (off := 7) (t := 18) (by decide +kernel) (by decide) rfl (fun h48 => ?_) (fun h48 => ?_)
            · exact absurd h48 (by decide)
            refine pe_ldc2 (j := 274) (v := (-1)) (by decide +kernel) (by decide +kernel) ?_
            refine pe_lret (by decide +kernel) rfl ?_
            show pmE pg _ pg_tyl pg_cl _ 318 1042 _ _ _ _
            refine pe_aload_n (j := 2) (by decide +kernel) rfl ?_
            refine pe_aloadX_n (j := 0) (by decide +kernel) rfl ?_
            refine pe_iload_n (j := 3) (by decide +kernel) rfl ?_
            refine pe_iconstv (n := 1) (v := 1) (by decide +kernel) (by decide +kernel) ?_
            refine pe_iadd (by decide +kernel) ?_
            refine pe_top (v := 1) (by decide +kernel) ?_
            refine pe_ialdXv (n := 7) (v := x1) (by decide +kernel) rfl rfl (by decide +kernel) rfl ?_
            refine pe_aloadX_n (j := 0) (by decide +kernel) rfl ?_
            refine pe_iload_n (j := 3) (by decide +kernel) rfl ?_
            refine pe_iconstv (n := 2) (v := 2) (by decide +kernel) (by decide +kernel) ?_
            refine pe_iadd (by decide +kernel) ?_
            refine pe_top (v := 2) (by decide +kernel) ?_
            refine pe_ialdXv (n := 7) (v := x2) (by decide +kernel) rfl rfl (by decide +kernel) rfl ?_
            refine pe_aloadX_n (j := 0) (by decide +kernel) rfl ?_
            refine pe_iload_n (j := 3) (by decide +kernel) rfl ?_
            refine pe_iconstv (n := 3) (v := 3) (by decide +kernel) (by decide +kernel) ?_
            refine pe_iadd (by decide +kernel) ?_
            refine pe_top (v := 3) (by decide +kernel) ?_
            refine pe_ialdXv (n := 7) (v := x3) (by decide +kernel) rfl rfl (by decide +kernel) rfl ?_
            refine pe_aloadX_n (j := 0) (by decide +kernel) rfl ?_
            refine pe_iload_n (j := 3) (by decide +kernel) rfl ?_
            refine pe_iconstv (n := 4) (v := 4) (by decide +kernel) (by decide +kernel) ?_
            refine pe_iadd (by decide +kernel) ?_
            refine pe_top (v := 4) (by decide +kernel) ?_
            refine pe_ialdXv (n := 7) (v := x4) (by decide +kernel) rfl rfl (by decide +kernel) rfl ?_
            refine pe_aloadX_n (j := 0) (by decide +kernel) rfl ?_
            refine pe_iload_n (j := 3) (by decide +kernel) rfl ?_
            refine pe_iconstv (n := 5) (v := 5) (by decide +kernel) (by decide +kernel) ?_
            refine pe_iadd (by decide +kernel) ?_
            refine pe_top (v := 5) (by decide +kernel) ?_
            refine pe_ialdXv (n := 7) (v := x5) (by decide +kernel) rfl rfl (by decide +kernel) rfl ?_
            refine pe_aloadX_n (j := 0) (by decide +kernel) rfl ?_
            refine pe_iload_n (j := 3) (by decide +kernel) rfl ?_
            refine pe_bipushv (n := 6) (v := 6) (by decide +kernel) (by decide +kernel) ?_
            refine pe_iadd (by decide +kernel) ?_
            refine pe_top (v := 6) (by decide +kernel) ?_
            refine pe_ialdXv (n := 7) (v := x6) (by decide +kernel) rfl rfl (by decide +kernel) rfl ?_
            refine pe_if_eq (off := 7) (t := 1081) (by decide +kernel) (by decide) rfl (fun h49 => ?_) (fun h49 => ?_)
            · skip
              refine pe_iconstv (n := 0) (v := 0) (by decide +kernel) (by decide +kernel) ?_
              refine pe_callV (j := 92) (mj := 272) (by decide +kernel) rfl ?_
              refine pe_iload (j := 5) (by decide +kernel) rfl ?_
              refine pe_iconstv (n := 0) (v := 0) (by decide +kernel) (by decide +kernel) ?_
              refine pe_iconstv (n := 2) (v := 2) (by decide +kernel) (by decide +kernel) ?_
              refine pe_callS (j := 119) (mj := 199) (by decide +kernel) (by decide +kernel) rfl ?_
              refine pe_iload_n (j := 0) (by decide +kernel) rfl ?_
              refine pe_iload_n (j := 1) (by decide +kernel) rfl ?_
              refine pe_icmp_lt (off := 12) (t := 14) (by decide +kernel) (by decide) rfl (fun h50 => ?_) (fun h50 => ?_)
              · skip
                first | exact absurd rfl (by assumption) | (exfalso; simp only [Int32.lt_iff_toInt_lt, Int32.le_iff_toInt_le, ← Int32.toInt_inj, kl_m100000, kl_m3, kl_m2, kl_m1, kl_0, kl_1, kl_2, kl_3, kl_4, kl_5, kl_6, kl_7, kl_8, kl_9, kl_10, kl_11, kl_12, kl_13, kl_14, kl_15, kl_16, kl_17, kl_18, kl_19, kl_20, kl_21, kl_22, kl_23, kl_24, kl_25, kl_26, kl_27, kl_28, kl_29, kl_30, kl_99, kl_100, kl_600, kl_999] at *; omega)
              · skip
                refine pe_iload_n (j := 0) (by decide +kernel) rfl ?_
                refine pe_iload_n (j := 2) (by decide +kernel) rfl ?_
                refine pe_icmp_gt (off := 7) (t := 14) (by decide +kernel) (by decide) rfl (fun h51 => ?_) (fun h51 => ?_)
                · skip
                  first | exact absurd rfl (by assumption) | (exfalso; simp only [Int32.lt_iff_toInt_lt, Int32.le_iff_toInt_le, ← Int32.toInt_inj, kl_m100000, kl_m3, kl_m2, kl_m1, kl_0, kl_1, kl_2, kl_3, kl_4, kl_5, kl_6, kl_7, kl_8, kl_9, kl_10, kl_11, kl_12, kl_13, kl_14, kl_15, kl_16, kl_17, kl_18, kl_19, kl_20, kl_21, kl_22, kl_23, kl_24, kl_25, kl_26, kl_27, kl_28, kl_29, kl_30, kl_99, kl_100, kl_600, kl_999] at *; omega)
                · skip
                  refine pe_iconstv (n := 1) (v := 1) (by decide +kernel) (by decide +kernel) ?_
                  refine pe_goto (off := 4) (t := 15) (by decide +kernel) (by decide) rfl ?_
                  refine pe_iret (by decide +kernel) rfl rfl ?_
                  show pmE pg _ pg_tyl pg_cl _ 272 7 _ _ _ _
                  refine pe_if_eq (off := 33) (t := 40) (by decide +kernel) (by decide) rfl (fun h52 => ?_) (fun h52 => ?_)
                  · exact absurd h52 (by decide)
                  refine pe_aload_n (j := 0) (by decide +kernel) rfl ?_
                  refine pe_iload_n (j := 1) (by decide +kernel) rfl ?_
                  refine pe_iload_n (j := 2) (by decide +kernel) rfl ?_
                  refine pe_iload_n (j := 3) (by decide +kernel) rfl ?_
                  refine pe_iload (j := 4) (by decide +kernel) rfl ?_
                  refine pe_callV (j := 303) (mj := 265) (by decide +kernel) rfl ?_
                  refine pe_aload_n (j := 0) (by decide +kernel) rfl ?_
                  refine pe_iload_n (j := 1) (by decide +kernel) rfl ?_
                  refine pe_iload_n (j := 2) (by decide +kernel) rfl ?_
                  refine pe_iload_n (j := 3) (by decide +kernel) rfl ?_
                  refine pe_callV (j := 232) (mj := 246) (by decide +kernel) rfl ?_
                  refine pe_aload_n (j := 0) (by decide +kernel) rfl ?_
                  refine pe_iconstv (n := 0) (v := 0) (by decide +kernel) (by decide +kernel) ?_
                  refine pe_iload_n (j := 1) (by decide +kernel) rfl ?_
                  refine pe_callV (j := 153) (mj := 200) (by decide +kernel) rfl ?_
                  refine pe_iload_n (j := 2) (by decide +kernel) rfl ?_
                  refine pe_iconstv (n := 0) (v := 0) (by decide +kernel) (by decide +kernel) ?_
                  refine pe_aload_n (j := 0) (by decide +kernel) rfl ?_
                  refine pe_get (j := 7) (ci := 12) (n := 0) (by decide +kernel) (by decide +kernel) rfl rfl ?_
                  refine pe_iload_n (j := 1) (by decide +kernel) rfl ?_
                  refine pe_ialdv (n := 6760) (v := 0) (by decide +kernel) rfl rfl (by decide +kernel) rfl ?_
                  refine pe_iconstv (n := 1) (v := 1) (by decide +kernel) (by decide +kernel) ?_
                  refine pe_isub (by decide +kernel) ?_
                  refine pe_top (v := (-1)) (by decide +kernel) ?_
                  refine pe_callS (j := 119) (mj := 199) (by decide +kernel) (by decide +kernel) rfl ?_
                  refine pe_iload_n (j := 0) (by decide +kernel) rfl ?_
                  refine pe_iload_n (j := 1) (by decide +kernel) rfl ?_
                  refine pe_icmp_lt (off := 12) (t := 14) (by decide +kernel) (by decide) rfl (fun h53 => ?_) (fun h53 => ?_)
                  · skip
                    first | exact absurd rfl (by assumption) | (exfalso; simp only [Int32.lt_iff_toInt_lt, Int32.le_iff_toInt_le, ← Int32.toInt_inj, kl_m100000, kl_m3, kl_m2, kl_m1, kl_0, kl_1, kl_2, kl_3, kl_4, kl_5, kl_6, kl_7, kl_8, kl_9, kl_10, kl_11, kl_12, kl_13, kl_14, kl_15, kl_16, kl_17, kl_18, kl_19, kl_20, kl_21, kl_22, kl_23, kl_24, kl_25, kl_26, kl_27, kl_28, kl_29, kl_30, kl_99, kl_100, kl_600, kl_999] at *; omega)
                  · skip
                    refine pe_iload_n (j := 0) (by decide +kernel) rfl ?_
                    refine pe_iload_n (j := 2) (by decide +kernel) rfl ?_
                    refine pe_icmp_gt (off := 7) (t := 14) (by decide +kernel) (by decide) rfl (fun h54 => ?_) (fun h54 => ?_)
                    · skip
                      refine pe_iconstv (n := 0) (v := 0) (by decide +kernel) (by decide +kernel) ?_
                      refine pe_iret (by decide +kernel) rfl rfl ?_
                      show pmE pg _ pg_tyl pg_cl _ 200 13 _ _ _ _
                      refine pe_iret (by decide +kernel) rfl rfl ?_
                      show pmE pg _ pg_tyl pg_cl _ 246 6 _ _ _ _
                      refine pe_if_eq (off := 21) (t := 27) (by decide +kernel) (by decide) rfl (fun h55 => ?_) (fun h55 => ?_)
                      rotate_left
                      · exact absurd h55 (by decide)
                      refine pe_iconstv (n := 0) (v := 0) (by decide +kernel) (by decide +kernel) ?_
                      refine pe_iret (by decide +kernel) rfl rfl ?_
                      show pmE pg _ pg_tyl pg_cl _ 265 7 _ _ _ _
                      refine pe_if_eq (off := 21) (t := 28) (by decide +kernel) (by decide) rfl (fun h56 => ?_) (fun h56 => ?_)
                      rotate_left
                      · exact absurd h56 (by decide)
                      refine pe_iconstv (n := 0) (v := 0) (by decide +kernel) (by decide +kernel) ?_
                      refine pe_iret (by decide +kernel) rfl rfl ?_
                      show pmE pg _ pg_tyl pg_cl _ 272 19 _ _ _ _
                      refine pe_if_eq (off := 21) (t := 40) (by decide +kernel) (by decide) rfl (fun h57 => ?_) (fun h57 => ?_)
                      rotate_left
                      · exact absurd h57 (by decide)
                      refine pe_ldc2 (j := 309) (v := (-1)) (by decide +kernel) (by decide +kernel) ?_
                      refine pe_lret (by decide +kernel) rfl ?_
                      show pmE pg _ pg_tyl pg_cl _ 318 1085 _ _ _ _
                      refine pe_lcmp (by decide +kernel) ?_
                      refine pe_top (v := 0) (by decide +kernel) ?_
                      refine pe_if_eq (off := 1391) (t := 2477) (by decide +kernel) (by decide) rfl (fun h58 => ?_) (fun h58 => ?_)
                      rotate_left
                      · exact absurd h58 (by decide)
                      refine pe_iincv (j := 3) (n := 7) (v := 7) (ls' := [_, _, _, _]) (by decide +kernel) rfl (by decide +kernel) rfl ?_
                      refine pe_goto (off := (-2462)) (t := 18) (by decide +kernel) (by decide) rfl ?_
                      refine pe_iload_n (j := 3) (by decide +kernel) rfl ?_
                      refine pe_aloadX_n (j := 0) (by decide +kernel) rfl ?_
                      refine pe_alenXv (v := 7) (by decide +kernel) rfl (by decide) rfl ?_
                      refine pe_bipushv (n := 7) (v := 7) (by decide +kernel) (by decide +kernel) ?_
                      refine pe_isub (by decide +kernel) ?_
                      refine pe_top (v := 0) (by decide +kernel) ?_
                      refine pe_icmp_gt (off := 2459) (t := 2483) (by decide +kernel) (by decide) rfl (fun h59 => ?_) (fun h59 => ?_)
                      rotate_left
                      · exact absurd h59 (by decide)
                      refine pe_iconstv (n := 1) (v := 1) (by decide +kernel) (by decide +kernel) ?_
                      refine pe_iret (by decide +kernel) rfl rfl ?_
                      exact ⟨rfl, rfl, rfl⟩
                    · skip
                      first | exact absurd rfl (by assumption) | (exfalso; simp only [Int32.lt_iff_toInt_lt, Int32.le_iff_toInt_le, ← Int32.toInt_inj, kl_m100000, kl_m3, kl_m2, kl_m1, kl_0, kl_1, kl_2, kl_3, kl_4, kl_5, kl_6, kl_7, kl_8, kl_9, kl_10, kl_11, kl_12, kl_13, kl_14, kl_15, kl_16, kl_17, kl_18, kl_19, kl_20, kl_21, kl_22, kl_23, kl_24, kl_25, kl_26, kl_27, kl_28, kl_29, kl_30, kl_99, kl_100, kl_600, kl_999] at *; omega)
            · skip
              first | exact absurd rfl (by assumption) | (exfalso; simp only [Int32.lt_iff_toInt_lt, Int32.le_iff_toInt_le, ← Int32.toInt_inj, kl_m100000, kl_m3, kl_m2, kl_m1, kl_0, kl_1, kl_2, kl_3, kl_4, kl_5, kl_6, kl_7, kl_8, kl_9, kl_10, kl_11, kl_12, kl_13, kl_14, kl_15, kl_16, kl_17, kl_18, kl_19, kl_20, kl_21, kl_22, kl_23, kl_24, kl_25, kl_26, kl_27, kl_28, kl_29, kl_30, kl_99, kl_100, kl_600, kl_999] at *; omega)
          · skip
            first | exact absurd rfl (by assumption) | (exfalso; simp only [Int32.lt_iff_toInt_lt, Int32.le_iff_toInt_le, ← Int32.toInt_inj, kl_m100000, kl_m3, kl_m2, kl_m1, kl_0, kl_1, kl_2, kl_3, kl_4, kl_5, kl_6, kl_7, kl_8, kl_9, kl_10, kl_11, kl_12, kl_13, kl_14, kl_15, kl_16, kl_17, kl_18, kl_19, kl_20, kl_21, kl_22, kl_23, kl_24, kl_25, kl_26, kl_27, kl_28, kl_29, kl_30, kl_99, kl_100, kl_600, kl_999] at *; omega)
      · skip
        refine pe_iload_n (j := 0) (by decide +kernel) rfl ?_
        refine pe_iconstv (n := 2) (v := 2) (by decide +kernel) (by decide +kernel) ?_
        refine pe_icmp_ne (off := 7) (t := 18) (by decide +kernel) (by decide) rfl (fun h60 => ?_) (fun h60 => ?_)
        · skip
          refine pe_iconstv (n := 0) (v := 0) (by decide +kernel) (by decide +kernel) ?_
          refine pe_iret (by decide +kernel) rfl rfl ?_
          show pmE pg _ pg_tyl pg_cl _ 131 5 _ _ _ _
          refine pe_if_eq (off := 28) (t := 33) (by decide +kernel) (by decide) rfl (fun h61 => ?_) (fun h61 => ?_)
          rotate_left
          · exact absurd h61 (by decide)
          refine pe_iconstv (n := 0) (v := 0) (by decide +kernel) (by decide +kernel) ?_
          refine pe_iret (by decide +kernel) rfl rfl ?_
          show pmE pg _ pg_tyl pg_cl _ 139 11 _ _ _ _
          refine pe_if_ne (off := 7) (t := 18) (by decide +kernel) (by decide) rfl (fun h62 => ?_) (fun h62 => ?_)
          · exact absurd h62 (by decide)
          refine pe_ldc2 (j := 274) (v := (-1)) (by decide +kernel) (by decide +kernel) ?_
          refine pe_lret (by decide +kernel) rfl ?_
          show pmE pg _ pg_tyl pg_cl _ 318 1042 _ _ _ _
          refine pe_aload_n (j := 2) (by decide +kernel) rfl ?_
          refine pe_aloadX_n (j := 0) (by decide +kernel) rfl ?_
          refine pe_iload_n (j := 3) (by decide +kernel) rfl ?_
          refine pe_iconstv (n := 1) (v := 1) (by decide +kernel) (by decide +kernel) ?_
          refine pe_iadd (by decide +kernel) ?_
          refine pe_top (v := 1) (by decide +kernel) ?_
          refine pe_ialdXv (n := 7) (v := x1) (by decide +kernel) rfl rfl (by decide +kernel) rfl ?_
          refine pe_aloadX_n (j := 0) (by decide +kernel) rfl ?_
          refine pe_iload_n (j := 3) (by decide +kernel) rfl ?_
          refine pe_iconstv (n := 2) (v := 2) (by decide +kernel) (by decide +kernel) ?_
          refine pe_iadd (by decide +kernel) ?_
          refine pe_top (v := 2) (by decide +kernel) ?_
          refine pe_ialdXv (n := 7) (v := x2) (by decide +kernel) rfl rfl (by decide +kernel) rfl ?_
          refine pe_aloadX_n (j := 0) (by decide +kernel) rfl ?_
          refine pe_iload_n (j := 3) (by decide +kernel) rfl ?_
          refine pe_iconstv (n := 3) (v := 3) (by decide +kernel) (by decide +kernel) ?_
          refine pe_iadd (by decide +kernel) ?_
          refine pe_top (v := 3) (by decide +kernel) ?_
          refine pe_ialdXv (n := 7) (v := x3) (by decide +kernel) rfl rfl (by decide +kernel) rfl ?_
          refine pe_aloadX_n (j := 0) (by decide +kernel) rfl ?_
          refine pe_iload_n (j := 3) (by decide +kernel) rfl ?_
          refine pe_iconstv (n := 4) (v := 4) (by decide +kernel) (by decide +kernel) ?_
          refine pe_iadd (by decide +kernel) ?_
          refine pe_top (v := 4) (by decide +kernel) ?_
          refine pe_ialdXv (n := 7) (v := x4) (by decide +kernel) rfl rfl (by decide +kernel) rfl ?_
          refine pe_aloadX_n (j := 0) (by decide +kernel) rfl ?_
          refine pe_iload_n (j := 3) (by decide +kernel) rfl ?_
          refine pe_iconstv (n := 5) (v := 5) (by decide +kernel) (by decide +kernel) ?_
          refine pe_iadd (by decide +kernel) ?_
          refine pe_top (v := 5) (by decide +kernel) ?_
          refine pe_ialdXv (n := 7) (v := x5) (by decide +kernel) rfl rfl (by decide +kernel) rfl ?_
          refine pe_aloadX_n (j := 0) (by decide +kernel) rfl ?_
          refine pe_iload_n (j := 3) (by decide +kernel) rfl ?_
          refine pe_bipushv (n := 6) (v := 6) (by decide +kernel) (by decide +kernel) ?_
          refine pe_iadd (by decide +kernel) ?_
          refine pe_top (v := 6) (by decide +kernel) ?_
          refine pe_ialdXv (n := 7) (v := x6) (by decide +kernel) rfl rfl (by decide +kernel) rfl ?_
          refine pe_if_eq (off := 7) (t := 1081) (by decide +kernel) (by decide) rfl (fun h63 => ?_) (fun h63 => ?_)
          · skip
            refine pe_iconstv (n := 0) (v := 0) (by decide +kernel) (by decide +kernel) ?_
            refine pe_callV (j := 92) (mj := 272) (by decide +kernel) rfl ?_
            refine pe_iload (j := 5) (by decide +kernel) rfl ?_
            refine pe_iconstv (n := 0) (v := 0) (by decide +kernel) (by decide +kernel) ?_
            refine pe_iconstv (n := 2) (v := 2) (by decide +kernel) (by decide +kernel) ?_
            refine pe_callS (j := 119) (mj := 199) (by decide +kernel) (by decide +kernel) rfl ?_
            refine pe_iload_n (j := 0) (by decide +kernel) rfl ?_
            refine pe_iload_n (j := 1) (by decide +kernel) rfl ?_
            refine pe_icmp_lt (off := 12) (t := 14) (by decide +kernel) (by decide) rfl (fun h64 => ?_) (fun h64 => ?_)
            · skip
              refine pe_iconstv (n := 0) (v := 0) (by decide +kernel) (by decide +kernel) ?_
              refine pe_iret (by decide +kernel) rfl rfl ?_
              show pmE pg _ pg_tyl pg_cl _ 272 7 _ _ _ _
              refine pe_if_eq (off := 33) (t := 40) (by decide +kernel) (by decide) rfl (fun h65 => ?_) (fun h65 => ?_)
              rotate_left
              · exact absurd h65 (by decide)
              refine pe_ldc2 (j := 309) (v := (-1)) (by decide +kernel) (by decide +kernel) ?_
              refine pe_lret (by decide +kernel) rfl ?_
              show pmE pg _ pg_tyl pg_cl _ 318 1085 _ _ _ _
              refine pe_lcmp (by decide +kernel) ?_
              refine pe_top (v := 0) (by decide +kernel) ?_
              refine pe_if_eq (off := 1391) (t := 2477) (by decide +kernel) (by decide) rfl (fun h66 => ?_) (fun h66 => ?_)
              rotate_left
              · exact absurd h66 (by decide)
              refine pe_iincv (j := 3) (n := 7) (v := 7) (ls' := [_, _, _, _]) (by decide +kernel) rfl (by decide +kernel) rfl ?_
              refine pe_goto (off := (-2462)) (t := 18) (by decide +kernel) (by decide) rfl ?_
              refine pe_iload_n (j := 3) (by decide +kernel) rfl ?_
              refine pe_aloadX_n (j := 0) (by decide +kernel) rfl ?_
              refine pe_alenXv (v := 7) (by decide +kernel) rfl (by decide) rfl ?_
              refine pe_bipushv (n := 7) (v := 7) (by decide +kernel) (by decide +kernel) ?_
              refine pe_isub (by decide +kernel) ?_
              refine pe_top (v := 0) (by decide +kernel) ?_
              refine pe_icmp_gt (off := 2459) (t := 2483) (by decide +kernel) (by decide) rfl (fun h67 => ?_) (fun h67 => ?_)
              rotate_left
              · exact absurd h67 (by decide)
              refine pe_iconstv (n := 1) (v := 1) (by decide +kernel) (by decide +kernel) ?_
              refine pe_iret (by decide +kernel) rfl rfl ?_
              exact ⟨rfl, rfl, rfl⟩
            · skip
              refine pe_iload_n (j := 0) (by decide +kernel) rfl ?_
              refine pe_iload_n (j := 2) (by decide +kernel) rfl ?_
              refine pe_icmp_gt (off := 7) (t := 14) (by decide +kernel) (by decide) rfl (fun h68 => ?_) (fun h68 => ?_)
              · skip
                refine pe_iconstv (n := 0) (v := 0) (by decide +kernel) (by decide +kernel) ?_
                refine pe_iret (by decide +kernel) rfl rfl ?_
                show pmE pg _ pg_tyl pg_cl _ 272 7 _ _ _ _
                refine pe_if_eq (off := 33) (t := 40) (by decide +kernel) (by decide) rfl (fun h69 => ?_) (fun h69 => ?_)
                rotate_left
                · exact absurd h69 (by decide)
                refine pe_ldc2 (j := 309) (v := (-1)) (by decide +kernel) (by decide +kernel) ?_
                refine pe_lret (by decide +kernel) rfl ?_
                show pmE pg _ pg_tyl pg_cl _ 318 1085 _ _ _ _
                refine pe_lcmp (by decide +kernel) ?_
                refine pe_top (v := 0) (by decide +kernel) ?_
                refine pe_if_eq (off := 1391) (t := 2477) (by decide +kernel) (by decide) rfl (fun h70 => ?_) (fun h70 => ?_)
                rotate_left
                · exact absurd h70 (by decide)
                refine pe_iincv (j := 3) (n := 7) (v := 7) (ls' := [_, _, _, _]) (by decide +kernel) rfl (by decide +kernel) rfl ?_
                refine pe_goto (off := (-2462)) (t := 18) (by decide +kernel) (by decide) rfl ?_
                refine pe_iload_n (j := 3) (by decide +kernel) rfl ?_
                refine pe_aloadX_n (j := 0) (by decide +kernel) rfl ?_
                refine pe_alenXv (v := 7) (by decide +kernel) rfl (by decide) rfl ?_
                refine pe_bipushv (n := 7) (v := 7) (by decide +kernel) (by decide +kernel) ?_
                refine pe_isub (by decide +kernel) ?_
                refine pe_top (v := 0) (by decide +kernel) ?_
                refine pe_icmp_gt (off := 2459) (t := 2483) (by decide +kernel) (by decide) rfl (fun h71 => ?_) (fun h71 => ?_)
                rotate_left
                · exact absurd h71 (by decide)
                refine pe_iconstv (n := 1) (v := 1) (by decide +kernel) (by decide +kernel) ?_
                refine pe_iret (by decide +kernel) rfl rfl ?_
                exact ⟨rfl, rfl, rfl⟩
              · skip
                first | exact absurd rfl (by assumption) | (exfalso; simp only [Int32.lt_iff_toInt_lt, Int32.le_iff_toInt_le, ← Int32.toInt_inj, kl_m100000, kl_m3, kl_m2, kl_m1, kl_0, kl_1, kl_2, kl_3, kl_4, kl_5, kl_6, kl_7, kl_8, kl_9, kl_10, kl_11, kl_12, kl_13, kl_14, kl_15, kl_16, kl_17, kl_18, kl_19, kl_20, kl_21, kl_22, kl_23, kl_24, kl_25, kl_26, kl_27, kl_28, kl_29, kl_30, kl_99, kl_100, kl_600, kl_999] at *; omega)
          · skip
            first | exact absurd rfl (by assumption) | (exfalso; simp only [Int32.lt_iff_toInt_lt, Int32.le_iff_toInt_le, ← Int32.toInt_inj, kl_m100000, kl_m3, kl_m2, kl_m1, kl_0, kl_1, kl_2, kl_3, kl_4, kl_5, kl_6, kl_7, kl_8, kl_9, kl_10, kl_11, kl_12, kl_13, kl_14, kl_15, kl_16, kl_17, kl_18, kl_19, kl_20, kl_21, kl_22, kl_23, kl_24, kl_25, kl_26, kl_27, kl_28, kl_29, kl_30, kl_99, kl_100, kl_600, kl_999] at *; omega)
        · skip
          refine pe_iconstv (n := 1) (v := 1) (by decide +kernel) (by decide +kernel) ?_
          refine pe_goto (off := 4) (t := 19) (by decide +kernel) (by decide) rfl ?_
          refine pe_iret (by decide +kernel) rfl rfl ?_
          show pmE pg _ pg_tyl pg_cl _ 131 5 _ _ _ _
          refine pe_if_eq (off := 28) (t := 33) (by decide +kernel) (by decide) rfl (fun h72 => ?_) (fun h72 => ?_)
          · exact absurd h72 (by decide)
          refine pe_aload_n (j := 0) (by decide +kernel) rfl ?_
          refine pe_iload_n (j := 1) (by decide +kernel) rfl ?_
          refine pe_iload_n (j := 2) (by decide +kernel) rfl ?_
          refine pe_iload_n (j := 3) (by decide +kernel) rfl ?_
          refine pe_callV (j := 201) (mj := 98) (by decide +kernel) rfl ?_
          refine pe_aload_n (j := 0) (by decide +kernel) rfl ?_
          refine pe_get (j := 12) (ci := 11) (n := 0) (by decide +kernel) (by decide +kernel) rfl rfl ?_
          refine pe_iload_n (j := 1) (by decide +kernel) rfl ?_
          refine pe_callV (j := 111) (mj := 60) (by decide +kernel) rfl ?_
          refine pe_iload_n (j := 1) (by decide +kernel) rfl ?_
          refine pe_if_lt (off := 20) (t := 21) (by decide +kernel) (by decide) rfl (fun h73 => ?_) (fun h73 => ?_)
          · skip
            refine pe_null (by decide +kernel) ?_
            refine pe_nret (by decide +kernel) rfl ?_
            show pmE pg _ pg_tyl pg_cl _ 98 8 _ _ _ _
            refine pe_astoreN (j := 4) (ls' := [_, _, _, _, _, _, _]) (by decide +kernel) (Nat.le_of_ble_eq_true rfl) rfl ?_
            refine pe_aloadN (j := 4) (by decide +kernel) rfl ?_
            refine pe_ifnonnullN (off := 5) (by decide +kernel) ?_
            refine pe_iconstv (n := 0) (v := 0) (by decide +kernel) (by decide +kernel) ?_
            refine pe_iret (by decide +kernel) rfl rfl ?_
            show pmE pg _ pg_tyl pg_cl _ 131 15 _ _ _ _
            refine pe_if_eq (off := 18) (t := 33) (by decide +kernel) (by decide) rfl (fun h74 => ?_) (fun h74 => ?_)
            rotate_left
            · exact absurd h74 (by decide)
            refine pe_iconstv (n := 0) (v := 0) (by decide +kernel) (by decide +kernel) ?_
            refine pe_iret (by decide +kernel) rfl rfl ?_
            show pmE pg _ pg_tyl pg_cl _ 139 11 _ _ _ _
            refine pe_if_ne (off := 7) (t := 18) (by decide +kernel) (by decide) rfl (fun h75 => ?_) (fun h75 => ?_)
            · exact absurd h75 (by decide)
            refine pe_ldc2 (j := 274) (v := (-1)) (by decide +kernel) (by decide +kernel) ?_
            refine pe_lret (by decide +kernel) rfl ?_
            show pmE pg _ pg_tyl pg_cl _ 318 1042 _ _ _ _
            refine pe_aload_n (j := 2) (by decide +kernel) rfl ?_
            refine pe_aloadX_n (j := 0) (by decide +kernel) rfl ?_
            refine pe_iload_n (j := 3) (by decide +kernel) rfl ?_
            refine pe_iconstv (n := 1) (v := 1) (by decide +kernel) (by decide +kernel) ?_
            refine pe_iadd (by decide +kernel) ?_
            refine pe_top (v := 1) (by decide +kernel) ?_
            refine pe_ialdXv (n := 7) (v := x1) (by decide +kernel) rfl rfl (by decide +kernel) rfl ?_
            refine pe_aloadX_n (j := 0) (by decide +kernel) rfl ?_
            refine pe_iload_n (j := 3) (by decide +kernel) rfl ?_
            refine pe_iconstv (n := 2) (v := 2) (by decide +kernel) (by decide +kernel) ?_
            refine pe_iadd (by decide +kernel) ?_
            refine pe_top (v := 2) (by decide +kernel) ?_
            refine pe_ialdXv (n := 7) (v := x2) (by decide +kernel) rfl rfl (by decide +kernel) rfl ?_
            refine pe_aloadX_n (j := 0) (by decide +kernel) rfl ?_
            refine pe_iload_n (j := 3) (by decide +kernel) rfl ?_
            refine pe_iconstv (n := 3) (v := 3) (by decide +kernel) (by decide +kernel) ?_
            refine pe_iadd (by decide +kernel) ?_
            refine pe_top (v := 3) (by decide +kernel) ?_
            refine pe_ialdXv (n := 7) (v := x3) (by decide +kernel) rfl rfl (by decide +kernel) rfl ?_
            refine pe_aloadX_n (j := 0) (by decide +kernel) rfl ?_
            refine pe_iload_n (j := 3) (by decide +kernel) rfl ?_
            refine pe_iconstv (n := 4) (v := 4) (by decide +kernel) (by decide +kernel) ?_
            refine pe_iadd (by decide +kernel) ?_
            refine pe_top (v := 4) (by decide +kernel) ?_
            refine pe_ialdXv (n := 7) (v := x4) (by decide +kernel) rfl rfl (by decide +kernel) rfl ?_
            refine pe_aloadX_n (j := 0) (by decide +kernel) rfl ?_
            refine pe_iload_n (j := 3) (by decide +kernel) rfl ?_
            refine pe_iconstv (n := 5) (v := 5) (by decide +kernel) (by decide +kernel) ?_
            refine pe_iadd (by decide +kernel) ?_
            refine pe_top (v := 5) (by decide +kernel) ?_
            refine pe_ialdXv (n := 7) (v := x5) (by decide +kernel) rfl rfl (by decide +kernel) rfl ?_
            refine pe_aloadX_n (j := 0) (by decide +kernel) rfl ?_
            refine pe_iload_n (j := 3) (by decide +kernel) rfl ?_
            refine pe_bipushv (n := 6) (v := 6) (by decide +kernel) (by decide +kernel) ?_
            refine pe_iadd (by decide +kernel) ?_
            refine pe_top (v := 6) (by decide +kernel) ?_
            refine pe_ialdXv (n := 7) (v := x6) (by decide +kernel) rfl rfl (by decide +kernel) rfl ?_
            refine pe_if_eq (off := 7) (t := 1081) (by decide +kernel) (by decide) rfl (fun h76 => ?_) (fun h76 => ?_)
            · skip
              refine pe_iconstv (n := 0) (v := 0) (by decide +kernel) (by decide +kernel) ?_
              refine pe_callV (j := 92) (mj := 272) (by decide +kernel) rfl ?_
              refine pe_iload (j := 5) (by decide +kernel) rfl ?_
              refine pe_iconstv (n := 0) (v := 0) (by decide +kernel) (by decide +kernel) ?_
              refine pe_iconstv (n := 2) (v := 2) (by decide +kernel) (by decide +kernel) ?_
              refine pe_callS (j := 119) (mj := 199) (by decide +kernel) (by decide +kernel) rfl ?_
              refine pe_iload_n (j := 0) (by decide +kernel) rfl ?_
              refine pe_iload_n (j := 1) (by decide +kernel) rfl ?_
              refine pe_icmp_lt (off := 12) (t := 14) (by decide +kernel) (by decide) rfl (fun h77 => ?_) (fun h77 => ?_)
              · skip
                first | exact absurd rfl (by assumption) | (exfalso; simp only [Int32.lt_iff_toInt_lt, Int32.le_iff_toInt_le, ← Int32.toInt_inj, kl_m100000, kl_m3, kl_m2, kl_m1, kl_0, kl_1, kl_2, kl_3, kl_4, kl_5, kl_6, kl_7, kl_8, kl_9, kl_10, kl_11, kl_12, kl_13, kl_14, kl_15, kl_16, kl_17, kl_18, kl_19, kl_20, kl_21, kl_22, kl_23, kl_24, kl_25, kl_26, kl_27, kl_28, kl_29, kl_30, kl_99, kl_100, kl_600, kl_999] at *; omega)
              · skip
                refine pe_iload_n (j := 0) (by decide +kernel) rfl ?_
                refine pe_iload_n (j := 2) (by decide +kernel) rfl ?_
                refine pe_icmp_gt (off := 7) (t := 14) (by decide +kernel) (by decide) rfl (fun h78 => ?_) (fun h78 => ?_)
                · skip
                  first | exact absurd rfl (by assumption) | (exfalso; simp only [Int32.lt_iff_toInt_lt, Int32.le_iff_toInt_le, ← Int32.toInt_inj, kl_m100000, kl_m3, kl_m2, kl_m1, kl_0, kl_1, kl_2, kl_3, kl_4, kl_5, kl_6, kl_7, kl_8, kl_9, kl_10, kl_11, kl_12, kl_13, kl_14, kl_15, kl_16, kl_17, kl_18, kl_19, kl_20, kl_21, kl_22, kl_23, kl_24, kl_25, kl_26, kl_27, kl_28, kl_29, kl_30, kl_99, kl_100, kl_600, kl_999] at *; omega)
                · skip
                  refine pe_iconstv (n := 1) (v := 1) (by decide +kernel) (by decide +kernel) ?_
                  refine pe_goto (off := 4) (t := 15) (by decide +kernel) (by decide) rfl ?_
                  refine pe_iret (by decide +kernel) rfl rfl ?_
                  show pmE pg _ pg_tyl pg_cl _ 272 7 _ _ _ _
                  refine pe_if_eq (off := 33) (t := 40) (by decide +kernel) (by decide) rfl (fun h79 => ?_) (fun h79 => ?_)
                  · exact absurd h79 (by decide)
                  refine pe_aload_n (j := 0) (by decide +kernel) rfl ?_
                  refine pe_iload_n (j := 1) (by decide +kernel) rfl ?_
                  refine pe_iload_n (j := 2) (by decide +kernel) rfl ?_
                  refine pe_iload_n (j := 3) (by decide +kernel) rfl ?_
                  refine pe_iload (j := 4) (by decide +kernel) rfl ?_
                  refine pe_callV (j := 303) (mj := 265) (by decide +kernel) rfl ?_
                  refine pe_aload_n (j := 0) (by decide +kernel) rfl ?_
                  refine pe_iload_n (j := 1) (by decide +kernel) rfl ?_
                  refine pe_iload_n (j := 2) (by decide +kernel) rfl ?_
                  refine pe_iload_n (j := 3) (by decide +kernel) rfl ?_
                  refine pe_callV (j := 232) (mj := 246) (by decide +kernel) rfl ?_
                  refine pe_aload_n (j := 0) (by decide +kernel) rfl ?_
                  refine pe_iconstv (n := 0) (v := 0) (by decide +kernel) (by decide +kernel) ?_
                  refine pe_iload_n (j := 1) (by decide +kernel) rfl ?_
                  refine pe_callV (j := 153) (mj := 200) (by decide +kernel) rfl ?_
                  refine pe_iload_n (j := 2) (by decide +kernel) rfl ?_
                  refine pe_iconstv (n := 0) (v := 0) (by decide +kernel) (by decide +kernel) ?_
                  refine pe_aload_n (j := 0) (by decide +kernel) rfl ?_
                  refine pe_get (j := 7) (ci := 12) (n := 0) (by decide +kernel) (by decide +kernel) rfl rfl ?_
                  refine pe_iload_n (j := 1) (by decide +kernel) rfl ?_
                  refine pe_ialdv (n := 6760) (v := 0) (by decide +kernel) rfl rfl (by decide +kernel) rfl ?_
                  refine pe_iconstv (n := 1) (v := 1) (by decide +kernel) (by decide +kernel) ?_
                  refine pe_isub (by decide +kernel) ?_
                  refine pe_top (v := (-1)) (by decide +kernel) ?_
                  refine pe_callS (j := 119) (mj := 199) (by decide +kernel) (by decide +kernel) rfl ?_
                  refine pe_iload_n (j := 0) (by decide +kernel) rfl ?_
                  refine pe_iload_n (j := 1) (by decide +kernel) rfl ?_
                  refine pe_icmp_lt (off := 12) (t := 14) (by decide +kernel) (by decide) rfl (fun h80 => ?_) (fun h80 => ?_)
                  · skip
                    refine pe_iconstv (n := 0) (v := 0) (by decide +kernel) (by decide +kernel) ?_
                    refine pe_iret (by decide +kernel) rfl rfl ?_
                    show pmE pg _ pg_tyl pg_cl _ 200 13 _ _ _ _
                    refine pe_iret (by decide +kernel) rfl rfl ?_
                    show pmE pg _ pg_tyl pg_cl _ 246 6 _ _ _ _
                    refine pe_if_eq (off := 21) (t := 27) (by decide +kernel) (by decide) rfl (fun h81 => ?_) (fun h81 => ?_)
                    rotate_left
                    · exact absurd h81 (by decide)
                    refine pe_iconstv (n := 0) (v := 0) (by decide +kernel) (by decide +kernel) ?_
                    refine pe_iret (by decide +kernel) rfl rfl ?_
                    show pmE pg _ pg_tyl pg_cl _ 265 7 _ _ _ _
                    refine pe_if_eq (off := 21) (t := 28) (by decide +kernel) (by decide) rfl (fun h82 => ?_) (fun h82 => ?_)
                    rotate_left
                    · exact absurd h82 (by decide)
                    refine pe_iconstv (n := 0) (v := 0) (by decide +kernel) (by decide +kernel) ?_
                    refine pe_iret (by decide +kernel) rfl rfl ?_
                    show pmE pg _ pg_tyl pg_cl _ 272 19 _ _ _ _
                    refine pe_if_eq (off := 21) (t := 40) (by decide +kernel) (by decide) rfl (fun h83 => ?_) (fun h83 => ?_)
                    rotate_left
                    · exact absurd h83 (by decide)
                    refine pe_ldc2 (j := 309) (v := (-1)) (by decide +kernel) (by decide +kernel) ?_
                    refine pe_lret (by decide +kernel) rfl ?_
                    show pmE pg _ pg_tyl pg_cl _ 318 1085 _ _ _ _
                    refine pe_lcmp (by decide +kernel) ?_
                    refine pe_top (v := 0) (by decide +kernel) ?_
                    refine pe_if_eq (off := 1391) (t := 2477) (by decide +kernel) (by decide) rfl (fun h84 => ?_) (fun h84 => ?_)
                    rotate_left
                    · exact absurd h84 (by decide)
                    refine pe_iincv (j := 3) (n := 7) (v := 7) (ls' := [_, _, _, _]) (by decide +kernel) rfl (by decide +kernel) rfl ?_
                    refine pe_goto (off := (-2462)) (t := 18) (by decide +kernel) (by decide) rfl ?_
                    refine pe_iload_n (j := 3) (by decide +kernel) rfl ?_
                    refine pe_aloadX_n (j := 0) (by decide +kernel) rfl ?_
                    refine pe_alenXv (v := 7) (by decide +kernel) rfl (by decide) rfl ?_
                    refine pe_bipushv (n := 7) (v := 7) (by decide +kernel) (by decide +kernel) ?_
                    refine pe_isub (by decide +kernel) ?_
                    refine pe_top (v := 0) (by decide +kernel) ?_
                    refine pe_icmp_gt (off := 2459) (t := 2483) (by decide +kernel) (by decide) rfl (fun h85 => ?_) (fun h85 => ?_)
                    rotate_left
                    · exact absurd h85 (by decide)
                    refine pe_iconstv (n := 1) (v := 1) (by decide +kernel) (by decide +kernel) ?_
                    refine pe_iret (by decide +kernel) rfl rfl ?_
                    exact ⟨rfl, rfl, rfl⟩
                  · skip
                    first | exact absurd rfl (by assumption) | (exfalso; simp only [Int32.lt_iff_toInt_lt, Int32.le_iff_toInt_le, ← Int32.toInt_inj, kl_m100000, kl_m3, kl_m2, kl_m1, kl_0, kl_1, kl_2, kl_3, kl_4, kl_5, kl_6, kl_7, kl_8, kl_9, kl_10, kl_11, kl_12, kl_13, kl_14, kl_15, kl_16, kl_17, kl_18, kl_19, kl_20, kl_21, kl_22, kl_23, kl_24, kl_25, kl_26, kl_27, kl_28, kl_29, kl_30, kl_99, kl_100, kl_600, kl_999] at *; omega)
            · skip
              first | exact absurd rfl (by assumption) | (exfalso; simp only [Int32.lt_iff_toInt_lt, Int32.le_iff_toInt_le, ← Int32.toInt_inj, kl_m100000, kl_m3, kl_m2, kl_m1, kl_0, kl_1, kl_2, kl_3, kl_4, kl_5, kl_6, kl_7, kl_8, kl_9, kl_10, kl_11, kl_12, kl_13, kl_14, kl_15, kl_16, kl_17, kl_18, kl_19, kl_20, kl_21, kl_22, kl_23, kl_24, kl_25, kl_26, kl_27, kl_28, kl_29, kl_30, kl_99, kl_100, kl_600, kl_999] at *; omega)
          · skip
            refine pe_iload_n (j := 1) (by decide +kernel) rfl ?_
            refine pe_aload_n (j := 0) (by decide +kernel) rfl ?_
            refine pe_get (j := 33) (ci := 8) (n := 2) (by decide +kernel) (by decide +kernel) rfl rfl ?_
            refine pe_icmp_ge (off := 12) (t := 21) (by decide +kernel) (by decide) rfl (fun h86 => ?_) (fun h86 => ?_)
            · skip
              refine pe_null (by decide +kernel) ?_
              refine pe_nret (by decide +kernel) rfl ?_
              show pmE pg _ pg_tyl pg_cl _ 98 8 _ _ _ _
              refine pe_astoreN (j := 4) (ls' := [_, _, _, _, _, _, _]) (by decide +kernel) (Nat.le_of_ble_eq_true rfl) rfl ?_
              refine pe_aloadN (j := 4) (by decide +kernel) rfl ?_
              refine pe_ifnonnullN (off := 5) (by decide +kernel) ?_
              refine pe_iconstv (n := 0) (v := 0) (by decide +kernel) (by decide +kernel) ?_
              refine pe_iret (by decide +kernel) rfl rfl ?_
              show pmE pg _ pg_tyl pg_cl _ 131 15 _ _ _ _
              refine pe_if_eq (off := 18) (t := 33) (by decide +kernel) (by decide) rfl (fun h87 => ?_) (fun h87 => ?_)
              rotate_left
              · exact absurd h87 (by decide)
              refine pe_iconstv (n := 0) (v := 0) (by decide +kernel) (by decide +kernel) ?_
              refine pe_iret (by decide +kernel) rfl rfl ?_
              show pmE pg _ pg_tyl pg_cl _ 139 11 _ _ _ _
              refine pe_if_ne (off := 7) (t := 18) (by decide +kernel) (by decide) rfl (fun h88 => ?_) (fun h88 => ?_)
              · exact absurd h88 (by decide)
              refine pe_ldc2 (j := 274) (v := (-1)) (by decide +kernel) (by decide +kernel) ?_
              refine pe_lret (by decide +kernel) rfl ?_
              show pmE pg _ pg_tyl pg_cl _ 318 1042 _ _ _ _
              refine pe_aload_n (j := 2) (by decide +kernel) rfl ?_
              refine pe_aloadX_n (j := 0) (by decide +kernel) rfl ?_
              refine pe_iload_n (j := 3) (by decide +kernel) rfl ?_
              refine pe_iconstv (n := 1) (v := 1) (by decide +kernel) (by decide +kernel) ?_
              refine pe_iadd (by decide +kernel) ?_
              refine pe_top (v := 1) (by decide +kernel) ?_
              refine pe_ialdXv (n := 7) (v := x1) (by decide +kernel) rfl rfl (by decide +kernel) rfl ?_
              refine pe_aloadX_n (j := 0) (by decide +kernel) rfl ?_
              refine pe_iload_n (j := 3) (by decide +kernel) rfl ?_
              refine pe_iconstv (n := 2) (v := 2) (by decide +kernel) (by decide +kernel) ?_
              refine pe_iadd (by decide +kernel) ?_
              refine pe_top (v := 2) (by decide +kernel) ?_
              refine pe_ialdXv (n := 7) (v := x2) (by decide +kernel) rfl rfl (by decide +kernel) rfl ?_
              refine pe_aloadX_n (j := 0) (by decide +kernel) rfl ?_
              refine pe_iload_n (j := 3) (by decide +kernel) rfl ?_
              refine pe_iconstv (n := 3) (v := 3) (by decide +kernel) (by decide +kernel) ?_
              refine pe_iadd (by decide +kernel) ?_
              refine pe_top (v := 3) (by decide +kernel) ?_
              refine pe_ialdXv (n := 7) (v := x3) (by decide +kernel) rfl rfl (by decide +kernel) rfl ?_
              refine pe_aloadX_n (j := 0) (by decide +kernel) rfl ?_
              refine pe_iload_n (j := 3) (by decide +kernel) rfl ?_
              refine pe_iconstv (n := 4) (v := 4) (by decide +kernel) (by decide +kernel) ?_
              refine pe_iadd (by decide +kernel) ?_
              refine pe_top (v := 4) (by decide +kernel) ?_
              refine pe_ialdXv (n := 7) (v := x4) (by decide +kernel) rfl rfl (by decide +kernel) rfl ?_
              refine pe_aloadX_n (j := 0) (by decide +kernel) rfl ?_
              refine pe_iload_n (j := 3) (by decide +kernel) rfl ?_
              refine pe_iconstv (n := 5) (v := 5) (by decide +kernel) (by decide +kernel) ?_
              refine pe_iadd (by decide +kernel) ?_
              refine pe_top (v := 5) (by decide +kernel) ?_
              refine pe_ialdXv (n := 7) (v := x5) (by decide +kernel) rfl rfl (by decide +kernel) rfl ?_
              refine pe_aloadX_n (j := 0) (by decide +kernel) rfl ?_
              refine pe_iload_n (j := 3) (by decide +kernel) rfl ?_
              refine pe_bipushv (n := 6) (v := 6) (by decide +kernel) (by decide +kernel) ?_
              refine pe_iadd (by decide +kernel) ?_
              refine pe_top (v := 6) (by decide +kernel) ?_
              refine pe_ialdXv (n := 7) (v := x6) (by decide +kernel) rfl rfl (by decide +kernel) rfl ?_
              refine pe_if_eq (off := 7) (t := 1081) (by decide +kernel) (by decide) rfl (fun h89 => ?_) (fun h89 => ?_)
              · skip
                refine pe_iconstv (n := 0) (v := 0) (by decide +kernel) (by decide +kernel) ?_
                refine pe_callV (j := 92) (mj := 272) (by decide +kernel) rfl ?_
                refine pe_iload (j := 5) (by decide +kernel) rfl ?_
                refine pe_iconstv (n := 0) (v := 0) (by decide +kernel) (by decide +kernel) ?_
                refine pe_iconstv (n := 2) (v := 2) (by decide +kernel) (by decide +kernel) ?_
                refine pe_callS (j := 119) (mj := 199) (by decide +kernel) (by decide +kernel) rfl ?_
                refine pe_iload_n (j := 0) (by decide +kernel) rfl ?_
                refine pe_iload_n (j := 1) (by decide +kernel) rfl ?_
                refine pe_icmp_lt (off := 12) (t := 14) (by decide +kernel) (by decide) rfl (fun h90 => ?_) (fun h90 => ?_)
                · skip
                  first | exact absurd rfl (by assumption) | (exfalso; simp only [Int32.lt_iff_toInt_lt, Int32.le_iff_toInt_le, ← Int32.toInt_inj, kl_m100000, kl_m3, kl_m2, kl_m1, kl_0, kl_1, kl_2, kl_3, kl_4, kl_5, kl_6, kl_7, kl_8, kl_9, kl_10, kl_11, kl_12, kl_13, kl_14, kl_15, kl_16, kl_17, kl_18, kl_19, kl_20, kl_21, kl_22, kl_23, kl_24, kl_25, kl_26, kl_27, kl_28, kl_29, kl_30, kl_99, kl_100, kl_600, kl_999] at *; omega)
                · skip
                  refine pe_iload_n (j := 0) (by decide +kernel) rfl ?_
                  refine pe_iload_n (j := 2) (by decide +kernel) rfl ?_
                  refine pe_icmp_gt (off := 7) (t := 14) (by decide +kernel) (by decide) rfl (fun h91 => ?_) (fun h91 => ?_)
                  · skip
                    first | exact absurd rfl (by assumption) | (exfalso; simp only [Int32.lt_iff_toInt_lt, Int32.le_iff_toInt_le, ← Int32.toInt_inj, kl_m100000, kl_m3, kl_m2, kl_m1, kl_0, kl_1, kl_2, kl_3, kl_4, kl_5, kl_6, kl_7, kl_8, kl_9, kl_10, kl_11, kl_12, kl_13, kl_14, kl_15, kl_16, kl_17, kl_18, kl_19, kl_20, kl_21, kl_22, kl_23, kl_24, kl_25, kl_26, kl_27, kl_28, kl_29, kl_30, kl_99, kl_100, kl_600, kl_999] at *; omega)
                  · skip
                    refine pe_iconstv (n := 1) (v := 1) (by decide +kernel) (by decide +kernel) ?_
                    refine pe_goto (off := 4) (t := 15) (by decide +kernel) (by decide) rfl ?_
                    refine pe_iret (by decide +kernel) rfl rfl ?_
                    show pmE pg _ pg_tyl pg_cl _ 272 7 _ _ _ _
                    refine pe_if_eq (off := 33) (t := 40) (by decide +kernel) (by decide) rfl (fun h92 => ?_) (fun h92 => ?_)
                    · exact absurd h92 (by decide)
                    refine pe_aload_n (j := 0) (by decide +kernel) rfl ?_
                    refine pe_iload_n (j := 1) (by decide +kernel) rfl ?_
                    refine pe_iload_n (j := 2) (by decide +kernel) rfl ?_
                    refine pe_iload_n (j := 3) (by decide +kernel) rfl ?_
                    refine pe_iload (j := 4) (by decide +kernel) rfl ?_
                    refine pe_callV (j := 303) (mj := 265) (by decide +kernel) rfl ?_
                    refine pe_aload_n (j := 0) (by decide +kernel) rfl ?_
                    refine pe_iload_n (j := 1) (by decide +kernel) rfl ?_
                    refine pe_iload_n (j := 2) (by decide +kernel) rfl ?_
                    refine pe_iload_n (j := 3) (by decide +kernel) rfl ?_
                    refine pe_callV (j := 232) (mj := 246) (by decide +kernel) rfl ?_
                    refine pe_aload_n (j := 0) (by decide +kernel) rfl ?_
                    refine pe_iconstv (n := 0) (v := 0) (by decide +kernel) (by decide +kernel) ?_
                    refine pe_iload_n (j := 1) (by decide +kernel) rfl ?_
                    refine pe_callV (j := 153) (mj := 200) (by decide +kernel) rfl ?_
                    refine pe_iload_n (j := 2) (by decide +kernel) rfl ?_
                    refine pe_iconstv (n := 0) (v := 0) (by decide +kernel) (by decide +kernel) ?_
                    refine pe_aload_n (j := 0) (by decide +kernel) rfl ?_
                    refine pe_get (j := 7) (ci := 12) (n := 0) (by decide +kernel) (by decide +kernel) rfl rfl ?_
                    refine pe_iload_n (j := 1) (by decide +kernel) rfl ?_
                    refine pe_ialdv (n := 6760) (v := 0) (by decide +kernel) rfl rfl (by decide +kernel) rfl ?_
                    refine pe_iconstv (n := 1) (v := 1) (by decide +kernel) (by decide +kernel) ?_
                    refine pe_isub (by decide +kernel) ?_
                    refine pe_top (v := (-1)) (by decide +kernel) ?_
                    refine pe_callS (j := 119) (mj := 199) (by decide +kernel) (by decide +kernel) rfl ?_
                    refine pe_iload_n (j := 0) (by decide +kernel) rfl ?_
                    refine pe_iload_n (j := 1) (by decide +kernel) rfl ?_
                    refine pe_icmp_lt (off := 12) (t := 14) (by decide +kernel) (by decide) rfl (fun h93 => ?_) (fun h93 => ?_)
                    · skip
                      first | exact absurd rfl (by assumption) | (exfalso; simp only [Int32.lt_iff_toInt_lt, Int32.le_iff_toInt_le, ← Int32.toInt_inj, kl_m100000, kl_m3, kl_m2, kl_m1, kl_0, kl_1, kl_2, kl_3, kl_4, kl_5, kl_6, kl_7, kl_8, kl_9, kl_10, kl_11, kl_12, kl_13, kl_14, kl_15, kl_16, kl_17, kl_18, kl_19, kl_20, kl_21, kl_22, kl_23, kl_24, kl_25, kl_26, kl_27, kl_28, kl_29, kl_30, kl_99, kl_100, kl_600, kl_999] at *; omega)
                    · skip
                      refine pe_iload_n (j := 0) (by decide +kernel) rfl ?_
                      refine pe_iload_n (j := 2) (by decide +kernel) rfl ?_
                      refine pe_icmp_gt (off := 7) (t := 14) (by decide +kernel) (by decide) rfl (fun h94 => ?_) (fun h94 => ?_)
                      · skip
                        refine pe_iconstv (n := 0) (v := 0) (by decide +kernel) (by decide +kernel) ?_
                        refine pe_iret (by decide +kernel) rfl rfl ?_
                        show pmE pg _ pg_tyl pg_cl _ 200 13 _ _ _ _
                        refine pe_iret (by decide +kernel) rfl rfl ?_
                        show pmE pg _ pg_tyl pg_cl _ 246 6 _ _ _ _
                        refine pe_if_eq (off := 21) (t := 27) (by decide +kernel) (by decide) rfl (fun h95 => ?_) (fun h95 => ?_)
                        rotate_left
                        · exact absurd h95 (by decide)
                        refine pe_iconstv (n := 0) (v := 0) (by decide +kernel) (by decide +kernel) ?_
                        refine pe_iret (by decide +kernel) rfl rfl ?_
                        show pmE pg _ pg_tyl pg_cl _ 265 7 _ _ _ _
                        refine pe_if_eq (off := 21) (t := 28) (by decide +kernel) (by decide) rfl (fun h96 => ?_) (fun h96 => ?_)
                        rotate_left
                        · exact absurd h96 (by decide)
                        refine pe_iconstv (n := 0) (v := 0) (by decide +kernel) (by decide +kernel) ?_
                        refine pe_iret (by decide +kernel) rfl rfl ?_
                        show pmE pg _ pg_tyl pg_cl _ 272 19 _ _ _ _
                        refine pe_if_eq (off := 21) (t := 40) (by decide +kernel) (by decide) rfl (fun h97 => ?_) (fun h97 => ?_)
                        rotate_left
                        · exact absurd h97 (by decide)
                        refine pe_ldc2 (j := 309) (v := (-1)) (by decide +kernel) (by decide +kernel) ?_
                        refine pe_lret (by decide +kernel) rfl ?_
                        show pmE pg _ pg_tyl pg_cl _ 318 1085 _ _ _ _
                        refine pe_lcmp (by decide +kernel) ?_
                        refine pe_top (v := 0) (by decide +kernel) ?_
                        refine pe_if_eq (off := 1391) (t := 2477) (by decide +kernel) (by decide) rfl (fun h98 => ?_) (fun h98 => ?_)
                        rotate_left
                        · exact absurd h98 (by decide)
                        refine pe_iincv (j := 3) (n := 7) (v := 7) (ls' := [_, _, _, _]) (by decide +kernel) rfl (by decide +kernel) rfl ?_
                        refine pe_goto (off := (-2462)) (t := 18) (by decide +kernel) (by decide) rfl ?_
                        refine pe_iload_n (j := 3) (by decide +kernel) rfl ?_
                        refine pe_aloadX_n (j := 0) (by decide +kernel) rfl ?_
                        refine pe_alenXv (v := 7) (by decide +kernel) rfl (by decide) rfl ?_
                        refine pe_bipushv (n := 7) (v := 7) (by decide +kernel) (by decide +kernel) ?_
                        refine pe_isub (by decide +kernel) ?_
                        refine pe_top (v := 0) (by decide +kernel) ?_
                        refine pe_icmp_gt (off := 2459) (t := 2483) (by decide +kernel) (by decide) rfl (fun h99 => ?_) (fun h99 => ?_)
                        rotate_left
                        · exact absurd h99 (by decide)
                        refine pe_iconstv (n := 1) (v := 1) (by decide +kernel) (by decide +kernel) ?_
                        refine pe_iret (by decide +kernel) rfl rfl ?_
                        exact ⟨rfl, rfl, rfl⟩
                      · skip
                        first | exact absurd rfl (by assumption) | (exfalso; simp only [Int32.lt_iff_toInt_lt, Int32.le_iff_toInt_le, ← Int32.toInt_inj, kl_m100000, kl_m3, kl_m2, kl_m1, kl_0, kl_1, kl_2, kl_3, kl_4, kl_5, kl_6, kl_7, kl_8, kl_9, kl_10, kl_11, kl_12, kl_13, kl_14, kl_15, kl_16, kl_17, kl_18, kl_19, kl_20, kl_21, kl_22, kl_23, kl_24, kl_25, kl_26, kl_27, kl_28, kl_29, kl_30, kl_99, kl_100, kl_600, kl_999] at *; omega)
              · skip
                first | exact absurd rfl (by assumption) | (exfalso; simp only [Int32.lt_iff_toInt_lt, Int32.le_iff_toInt_le, ← Int32.toInt_inj, kl_m100000, kl_m3, kl_m2, kl_m1, kl_0, kl_1, kl_2, kl_3, kl_4, kl_5, kl_6, kl_7, kl_8, kl_9, kl_10, kl_11, kl_12, kl_13, kl_14, kl_15, kl_16, kl_17, kl_18, kl_19, kl_20, kl_21, kl_22, kl_23, kl_24, kl_25, kl_26, kl_27, kl_28, kl_29, kl_30, kl_99, kl_100, kl_600, kl_999] at *; omega)
            · skip
              first | exact absurd rfl (by assumption) | (exfalso; simp only [Int32.lt_iff_toInt_lt, Int32.le_iff_toInt_le, ← Int32.toInt_inj, kl_m100000, kl_m3, kl_m2, kl_m1, kl_0, kl_1, kl_2, kl_3, kl_4, kl_5, kl_6, kl_7, kl_8, kl_9, kl_10, kl_11, kl_12, kl_13, kl_14, kl_15, kl_16, kl_17, kl_18, kl_19, kl_20, kl_21, kl_22, kl_23, kl_24, kl_25, kl_26, kl_27, kl_28, kl_29, kl_30, kl_99, kl_100, kl_600, kl_999] at *; omega)
  · skip
    refine pe_iconstv (n := 1) (v := 1) (by decide +kernel) (by decide +kernel) ?_
    refine pe_goto (off := 4) (t := 1039) (by decide +kernel) (by decide) rfl ?_
    refine pe_callV (j := 88) (mj := 139) (by decide +kernel) rfl ?_
    refine pe_aload_n (j := 0) (by decide +kernel) rfl ?_
    refine pe_iload_n (j := 1) (by decide +kernel) rfl ?_
    refine pe_iload_n (j := 2) (by decide +kernel) rfl ?_
    refine pe_iload_n (j := 3) (by decide +kernel) rfl ?_
    refine pe_iload (j := 4) (by decide +kernel) rfl ?_
    refine pe_iload (j := 5) (by decide +kernel) rfl ?_
    refine pe_callV (j := 262) (mj := 131) (by decide +kernel) rfl ?_
    refine pe_iload (j := 5) (by decide +kernel) rfl ?_
    refine pe_callS (j := 317) (mj := 132) (by decide +kernel) (by decide +kernel) rfl ?_
    refine pe_iload_n (j := 0) (by decide +kernel) rfl ?_
    refine pe_if_eq (off := 13) (t := 14) (by decide +kernel) (by decide) rfl (fun h100 => ?_) (fun h100 => ?_)
    · skip
      refine pe_iconstv (n := 1) (v := 1) (by decide +kernel) (by decide +kernel) ?_
      refine pe_goto (off := 4) (t := 19) (by decide +kernel) (by decide) rfl ?_
      refine pe_iret (by decide +kernel) rfl rfl ?_
      show pmE pg _ pg_tyl pg_cl _ 131 5 _ _ _ _
      refine pe_if_eq (off := 28) (t := 33) (by decide +kernel) (by decide) rfl (fun h101 => ?_) (fun h101 => ?_)
      · exact absurd h101 (by decide)
      refine pe_aload_n (j := 0) (by decide +kernel) rfl ?_
      refine pe_iload_n (j := 1) (by decide +kernel) rfl ?_
      refine pe_iload_n (j := 2) (by decide +kernel) rfl ?_
      refine pe_iload_n (j := 3) (by decide +kernel) rfl ?_
      refine pe_callV (j := 201) (mj := 98) (by decide +kernel) rfl ?_
      refine pe_aload_n (j := 0) (by decide +kernel) rfl ?_
      refine pe_get (j := 12) (ci := 11) (n := 0) (by decide +kernel) (by decide +kernel) rfl rfl ?_
      refine pe_iload_n (j := 1) (by decide +kernel) rfl ?_
      refine pe_callV (j := 111) (mj := 60) (by decide +kernel) rfl ?_
      refine pe_iload_n (j := 1) (by decide +kernel) rfl ?_
      refine pe_if_lt (off := 20) (t := 21) (by decide +kernel) (by decide) rfl (fun h102 => ?_) (fun h102 => ?_)
      · skip
        refine pe_null (by decide +kernel) ?_
        refine pe_nret (by decide +kernel) rfl ?_
        show pmE pg _ pg_tyl pg_cl _ 98 8 _ _ _ _
        refine pe_astoreN (j := 4) (ls' := [_, _, _, _, _, _, _]) (by decide +kernel) (Nat.le_of_ble_eq_true rfl) rfl ?_
        refine pe_aloadN (j := 4) (by decide +kernel) rfl ?_
        refine pe_ifnonnullN (off := 5) (by decide +kernel) ?_
        refine pe_iconstv (n := 0) (v := 0) (by decide +kernel) (by decide +kernel) ?_
        refine pe_iret (by decide +kernel) rfl rfl ?_
        show pmE pg _ pg_tyl pg_cl _ 131 15 _ _ _ _
        refine pe_if_eq (off := 18) (t := 33) (by decide +kernel) (by decide) rfl (fun h103 => ?_) (fun h103 => ?_)
        rotate_left
        · exact absurd h103 (by decide)
        refine pe_iconstv (n := 0) (v := 0) (by decide +kernel) (by decide +kernel) ?_
        refine pe_iret (by decide +kernel) rfl rfl ?_
        show pmE pg _ pg_tyl pg_cl _ 139 11 _ _ _ _
        refine pe_if_ne (off := 7) (t := 18) (by decide +kernel) (by decide) rfl (fun h104 => ?_) (fun h104 => ?_)
        · exact absurd h104 (by decide)
        refine pe_ldc2 (j := 274) (v := (-1)) (by decide +kernel) (by decide +kernel) ?_
        refine pe_lret (by decide +kernel) rfl ?_
        show pmE pg _ pg_tyl pg_cl _ 318 1042 _ _ _ _
        refine pe_aload_n (j := 2) (by decide +kernel) rfl ?_
        refine pe_aloadX_n (j := 0) (by decide +kernel) rfl ?_
        refine pe_iload_n (j := 3) (by decide +kernel) rfl ?_
        refine pe_iconstv (n := 1) (v := 1) (by decide +kernel) (by decide +kernel) ?_
        refine pe_iadd (by decide +kernel) ?_
        refine pe_top (v := 1) (by decide +kernel) ?_
        refine pe_ialdXv (n := 7) (v := x1) (by decide +kernel) rfl rfl (by decide +kernel) rfl ?_
        refine pe_aloadX_n (j := 0) (by decide +kernel) rfl ?_
        refine pe_iload_n (j := 3) (by decide +kernel) rfl ?_
        refine pe_iconstv (n := 2) (v := 2) (by decide +kernel) (by decide +kernel) ?_
        refine pe_iadd (by decide +kernel) ?_
        refine pe_top (v := 2) (by decide +kernel) ?_
        refine pe_ialdXv (n := 7) (v := x2) (by decide +kernel) rfl rfl (by decide +kernel) rfl ?_
        refine pe_aloadX_n (j := 0) (by decide +kernel) rfl ?_
        refine pe_iload_n (j := 3) (by decide +kernel) rfl ?_
        refine pe_iconstv (n := 3) (v := 3) (by decide +kernel) (by decide +kernel) ?_
        refine pe_iadd (by decide +kernel) ?_
        refine pe_top (v := 3) (by decide +kernel) ?_
        refine pe_ialdXv (n := 7) (v := x3) (by decide +kernel) rfl rfl (by decide +kernel) rfl ?_
        refine pe_aloadX_n (j := 0) (by decide +kernel) rfl ?_
        refine pe_iload_n (j := 3) (by decide +kernel) rfl ?_
        refine pe_iconstv (n := 4) (v := 4) (by decide +kernel) (by decide +kernel) ?_
        refine pe_iadd (by decide +kernel) ?_
        refine pe_top (v := 4) (by decide +kernel) ?_
        refine pe_ialdXv (n := 7) (v := x4) (by decide +kernel) rfl rfl (by decide +kernel) rfl ?_
        refine pe_aloadX_n (j := 0) (by decide +kernel) rfl ?_
        refine pe_iload_n (j := 3) (by decide +kernel) rfl ?_
        refine pe_iconstv (n := 5) (v := 5) (by decide +kernel) (by decide +kernel) ?_
        refine pe_iadd (by decide +kernel) ?_
        refine pe_top (v := 5) (by decide +kernel) ?_
        refine pe_ialdXv (n := 7) (v := x5) (by decide +kernel) rfl rfl (by decide +kernel) rfl ?_
        refine pe_aloadX_n (j := 0) (by decide +kernel) rfl ?_
        refine pe_iload_n (j := 3) (by decide +kernel) rfl ?_
        refine pe_bipushv (n := 6) (v := 6) (by decide +kernel) (by decide +kernel) ?_
        refine pe_iadd (by decide +kernel) ?_
        refine pe_top (v := 6) (by decide +kernel) ?_
        refine pe_ialdXv (n := 7) (v := x6) (by decide +kernel) rfl rfl (by decide +kernel) rfl ?_
        refine pe_if_eq (off := 7) (t := 1081) (by decide +kernel) (by decide) rfl (fun h105 => ?_) (fun h105 => ?_)
        · skip
          first | exact absurd rfl (by assumption) | (exfalso; simp only [Int32.lt_iff_toInt_lt, Int32.le_iff_toInt_le, ← Int32.toInt_inj, kl_m100000, kl_m3, kl_m2, kl_m1, kl_0, kl_1, kl_2, kl_3, kl_4, kl_5, kl_6, kl_7, kl_8, kl_9, kl_10, kl_11, kl_12, kl_13, kl_14, kl_15, kl_16, kl_17, kl_18, kl_19, kl_20, kl_21, kl_22, kl_23, kl_24, kl_25, kl_26, kl_27, kl_28, kl_29, kl_30, kl_99, kl_100, kl_600, kl_999] at *; omega)
        · skip
          refine pe_iconstv (n := 1) (v := 1) (by decide +kernel) (by decide +kernel) ?_
          refine pe_goto (off := 4) (t := 1082) (by decide +kernel) (by decide) rfl ?_
          refine pe_callV (j := 92) (mj := 272) (by decide +kernel) rfl ?_
          refine pe_iload (j := 5) (by decide +kernel) rfl ?_
          refine pe_iconstv (n := 0) (v := 0) (by decide +kernel) (by decide +kernel) ?_
          refine pe_iconstv (n := 2) (v := 2) (by decide +kernel) (by decide +kernel) ?_
          refine pe_callS (j := 119) (mj := 199) (by decide +kernel) (by decide +kernel) rfl ?_
          refine pe_iload_n (j := 0) (by decide +kernel) rfl ?_
          refine pe_iload_n (j := 1) (by decide +kernel) rfl ?_
          refine pe_icmp_lt (off := 12) (t := 14) (by decide +kernel) (by decide) rfl (fun h106 => ?_) (fun h106 => ?_)
          · skip
            first | exact absurd rfl (by assumption) | (exfalso; simp only [Int32.lt_iff_toInt_lt, Int32.le_iff_toInt_le, ← Int32.toInt_inj, kl_m100000, kl_m3, kl_m2, kl_m1, kl_0, kl_1, kl_2, kl_3, kl_4, kl_5, kl_6, kl_7, kl_8, kl_9, kl_10, kl_11, kl_12, kl_13, kl_14, kl_15, kl_16, kl_17, kl_18, kl_19, kl_20, kl_21, kl_22, kl_23, kl_24, kl_25, kl_26, kl_27, kl_28, kl_29, kl_30, kl_99, kl_100, kl_600, kl_999] at *; omega)
          · skip
            refine pe_iload_n (j := 0) (by decide +kernel) rfl ?_
            refine pe_iload_n (j := 2) (by decide +kernel) rfl ?_
            refine pe_icmp_gt (off := 7) (t := 14) (by decide +kernel) (by decide) rfl (fun h107 => ?_) (fun h107 => ?_)
            · skip
              first | exact absurd rfl (by assumption) | (exfalso; simp only [Int32.lt_iff_toInt_lt, Int32.le_iff_toInt_le, ← Int32.toInt_inj, kl_m100000, kl_m3, kl_m2, kl_m1, kl_0, kl_1, kl_2, kl_3, kl_4, kl_5, kl_6, kl_7, kl_8, kl_9, kl_10, kl_11, kl_12, kl_13, kl_14, kl_15, kl_16, kl_17, kl_18, kl_19, kl_20, kl_21, kl_22, kl_23, kl_24, kl_25, kl_26, kl_27, kl_28, kl_29, kl_30, kl_99, kl_100, kl_600, kl_999] at *; omega)
            · skip
              refine pe_iconstv (n := 1) (v := 1) (by decide +kernel) (by decide +kernel) ?_
              refine pe_goto (off := 4) (t := 15) (by decide +kernel) (by decide) rfl ?_
              refine pe_iret (by decide +kernel) rfl rfl ?_
              show pmE pg _ pg_tyl pg_cl _ 272 7 _ _ _ _
              refine pe_if_eq (off := 33) (t := 40) (by decide +kernel) (by decide) rfl (fun h108 => ?_) (fun h108 => ?_)
              · exact absurd h108 (by decide)
              refine pe_aload_n (j := 0) (by decide +kernel) rfl ?_
              refine pe_iload_n (j := 1) (by decide +kernel) rfl ?_
              refine pe_iload_n (j := 2) (by decide +kernel) rfl ?_
              refine pe_iload_n (j := 3) (by decide +kernel) rfl ?_
              refine pe_iload (j := 4) (by decide +kernel) rfl ?_
              refine pe_callV (j := 303) (mj := 265) (by decide +kernel) rfl ?_
              refine pe_aload_n (j := 0) (by decide +kernel) rfl ?_
              refine pe_iload_n (j := 1) (by decide +kernel) rfl ?_
              refine pe_iload_n (j := 2) (by decide +kernel) rfl ?_
              refine pe_iload_n (j := 3) (by decide +kernel) rfl ?_
              refine pe_callV (j := 232) (mj := 246) (by decide +kernel) rfl ?_
              refine pe_aload_n (j := 0) (by decide +kernel) rfl ?_
              refine pe_iconstv (n := 0) (v := 0) (by decide +kernel) (by decide +kernel) ?_
              refine pe_iload_n (j := 1) (by decide +kernel) rfl ?_
              refine pe_callV (j := 153) (mj := 200) (by decide +kernel) rfl ?_
              refine pe_iload_n (j := 2) (by decide +kernel) rfl ?_
              refine pe_iconstv (n := 0) (v := 0) (by decide +kernel) (by decide +kernel) ?_
              refine pe_aload_n (j := 0) (by decide +kernel) rfl ?_
              refine pe_get (j := 7) (ci := 12) (n := 0) (by decide +kernel) (by decide +kernel) rfl rfl ?_
              refine pe_iload_n (j := 1) (by decide +kernel) rfl ?_
              refine pe_ialdv (n := 6760) (v := 0) (by decide +kernel) rfl rfl (by decide +kernel) rfl ?_
              refine pe_iconstv (n := 1) (v := 1) (by decide +kernel) (by decide +kernel) ?_
              refine pe_isub (by decide +kernel) ?_
              refine pe_top (v := (-1)) (by decide +kernel) ?_
              refine pe_callS (j := 119) (mj := 199) (by decide +kernel) (by decide +kernel) rfl ?_
              refine pe_iload_n (j := 0) (by decide +kernel) rfl ?_
              refine pe_iload_n (j := 1) (by decide +kernel) rfl ?_
              refine pe_icmp_lt (off := 12) (t := 14) (by decide +kernel) (by decide) rfl (fun h109 => ?_) (fun h109 => ?_)
              · skip
                refine pe_iconstv (n := 0) (v := 0) (by decide +kernel) (by decide +kernel) ?_
                refine pe_iret (by decide +kernel) rfl rfl ?_
                show pmE pg _ pg_tyl pg_cl _ 200 13 _ _ _ _
                refine pe_iret (by decide +kernel) rfl rfl ?_
                show pmE pg _ pg_tyl pg_cl _ 246 6 _ _ _ _
                refine pe_if_eq (off := 21) (t := 27) (by decide +kernel) (by decide) rfl (fun h110 => ?_) (fun h110 => ?_)
                rotate_left
                · exact absurd h110 (by decide)
                refine pe_iconstv (n := 0) (v := 0) (by decide +kernel) (by decide +kernel) ?_
                refine pe_iret (by decide +kernel) rfl rfl ?_
                show pmE pg _ pg_tyl pg_cl _ 265 7 _ _ _ _
                refine pe_if_eq (off := 21) (t := 28) (by decide +kernel) (by decide) rfl (fun h111 => ?_) (fun h111 => ?_)
                rotate_left
                · exact absurd h111 (by decide)
                refine pe_iconstv (n := 0) (v := 0) (by decide +kernel) (by decide +kernel) ?_
                refine pe_iret (by decide +kernel) rfl rfl ?_
                show pmE pg _ pg_tyl pg_cl _ 272 19 _ _ _ _
                refine pe_if_eq (off := 21) (t := 40) (by decide +kernel) (by decide) rfl (fun h112 => ?_) (fun h112 => ?_)
                rotate_left
                · exact absurd h112 (by decide)
                refine pe_ldc2 (j := 309) (v := (-1)) (by decide +kernel) (by decide +kernel) ?_
                refine pe_lret (by decide +kernel) rfl ?_
                show pmE pg _ pg_tyl pg_cl _ 318 1085 _ _ _ _
                refine pe_lcmp (by decide +kernel) ?_
                refine pe_top (v := 0) (by decide +kernel) ?_
                refine pe_if_eq (off := 1391) (t := 2477) (by decide +kernel) (by decide) rfl (fun h113 => ?_) (fun h113 => ?_)
                rotate_left
                · exact absurd h113 (by decide)
                refine pe_iincv (j := 3) (n := 7) (v := 7) (ls' := [_, _, _, _]) (by decide +kernel) rfl (by decide +kernel) rfl ?_
                refine pe_goto (off := (-2462)) (t := 18) (by decide +kernel) (by decide) rfl ?_
                refine pe_iload_n (j := 3) (by decide +kernel) rfl ?_
                refine pe_aloadX_n (j := 0) (by decide +kernel) rfl ?_
                refine pe_alenXv (v := 7) (by decide +kernel) rfl (by decide) rfl ?_
                refine pe_bipushv (n := 7) (v := 7) (by decide +kernel) (by decide +kernel) ?_
                refine pe_isub (by decide +kernel) ?_
                refine pe_top (v := 0) (by decide +kernel) ?_
                refine pe_icmp_gt (off := 2459) (t := 2483) (by decide +kernel) (by decide) rfl (fun h114 => ?_) (fun h114 => ?_)
                rotate_left
                · exact absurd h114 (by decide)
                refine pe_iconstv (n := 1) (v := 1) (by decide +kernel) (by decide +kernel) ?_
                refine pe_iret (by decide +kernel) rfl rfl ?_
                exact ⟨rfl, rfl, rfl⟩
              · skip
                first | exact absurd rfl (by assumption) | (exfalso; simp only [Int32.lt_iff_toInt_lt, Int32.le_iff_toInt_le, ← Int32.toInt_inj, kl_m100000, kl_m3, kl_m2, kl_m1, kl_0, kl_1, kl_2, kl_3, kl_4, kl_5, kl_6, kl_7, kl_8, kl_9, kl_10, kl_11, kl_12, kl_13, kl_14, kl_15, kl_16, kl_17, kl_18, kl_19, kl_20, kl_21, kl_22, kl_23, kl_24, kl_25, kl_26, kl_27, kl_28, kl_29, kl_30, kl_99, kl_100, kl_600, kl_999] at *; omega)
      · skip
        refine pe_iload_n (j := 1) (by decide +kernel) rfl ?_
        refine pe_aload_n (j := 0) (by decide +kernel) rfl ?_
        refine pe_get (j := 33) (ci := 8) (n := 2) (by decide +kernel) (by decide +kernel) rfl rfl ?_
        refine pe_icmp_ge (off := 12) (t := 21) (by decide +kernel) (by decide) rfl (fun h115 => ?_) (fun h115 => ?_)
        · skip
          refine pe_null (by decide +kernel) ?_
          refine pe_nret (by decide +kernel) rfl ?_
          show pmE pg _ pg_tyl pg_cl _ 98 8 _ _ _ _
          refine pe_astoreN (j := 4) (ls' := [_, _, _, _, _, _, _]) (by decide +kernel) (Nat.le_of_ble_eq_true rfl) rfl ?_
          refine pe_aloadN (j := 4) (by decide +kernel) rfl ?_
          refine pe_ifnonnullN (off := 5) (by decide +kernel) ?_
          refine pe_iconstv (n := 0) (v := 0) (by decide +kernel) (by decide +kernel) ?_
          refine pe_iret (by decide +kernel) rfl rfl ?_
          show pmE pg _ pg_tyl pg_cl _ 131 15 _ _ _ _
          refine pe_if_eq (off := 18) (t := 33) (by decide +kernel) (by decide) rfl (fun h116 => ?_) (fun h116 => ?_)
          rotate_left
          · exact absurd h116 (by decide)
          refine pe_iconstv (n := 0) (v := 0) (by decide +kernel) (by decide +kernel) ?_
          refine pe_iret (by decide +kernel) rfl rfl ?_
          show pmE pg _ pg_tyl pg_cl _ 139 11 _ _ _ _
          refine pe_if_ne (off := 7) (t := 18) (by decide +kernel) (by decide) rfl (fun h117 => ?_) (fun h117 => ?_)
          · exact absurd h117 (by decide)
          refine pe_ldc2 (j := 274) (v := (-1)) (by decide +kernel) (by decide +kernel) ?_
          refine pe_lret (by decide +kernel) rfl ?_
          show pmE pg _ pg_tyl pg_cl _ 318 1042 _ _ _ _
          refine pe_aload_n (j := 2) (by decide +kernel) rfl ?_
          refine pe_aloadX_n (j := 0) (by decide +kernel) rfl ?_
          refine pe_iload_n (j := 3) (by decide +kernel) rfl ?_
          refine pe_iconstv (n := 1) (v := 1) (by decide +kernel) (by decide +kernel) ?_
          refine pe_iadd (by decide +kernel) ?_
          refine pe_top (v := 1) (by decide +kernel) ?_
          refine pe_ialdXv (n := 7) (v := x1) (by decide +kernel) rfl rfl (by decide +kernel) rfl ?_
          refine pe_aloadX_n (j := 0) (by decide +kernel) rfl ?_
          refine pe_iload_n (j := 3) (by decide +kernel) rfl ?_
          refine pe_iconstv (n := 2) (v := 2) (by decide +kernel) (by decide +kernel) ?_
          refine pe_iadd (by decide +kernel) ?_
          refine pe_top (v := 2) (by decide +kernel) ?_
          refine pe_ialdXv (n := 7) (v := x2) (by decide +kernel) rfl rfl (by decide +kernel) rfl ?_
          refine pe_aloadX_n (j := 0) (by decide +kernel) rfl ?_
          refine pe_iload_n (j := 3) (by decide +kernel) rfl ?_
          refine pe_iconstv (n := 3) (v := 3) (by decide +kernel) (by decide +kernel) ?_
          refine pe_iadd (by decide +kernel) ?_
          refine pe_top (v := 3) (by decide +kernel) ?_
          refine pe_ialdXv (n := 7) (v := x3) (by decide +kernel) rfl rfl (by decide +kernel) rfl ?_
          refine pe_aloadX_n (j := 0) (by decide +kernel) rfl ?_
          refine pe_iload_n (j := 3) (by decide +kernel) rfl ?_
          refine pe_iconstv (n := 4) (v := 4) (by decide +kernel) (by decide +kernel) ?_
          refine pe_iadd (by decide +kernel) ?_
          refine pe_top (v := 4) (by decide +kernel) ?_
          refine pe_ialdXv (n := 7) (v := x4) (by decide +kernel) rfl rfl (by decide +kernel) rfl ?_
          refine pe_aloadX_n (j := 0) (by decide +kernel) rfl ?_
          refine pe_iload_n (j := 3) (by decide +kernel) rfl ?_
          refine pe_iconstv (n := 5) (v := 5) (by decide +kernel) (by decide +kernel) ?_
          refine pe_iadd (by decide +kernel) ?_
          refine pe_top (v := 5) (by decide +kernel) ?_
          refine pe_ialdXv (n := 7) (v := x5) (by decide +kernel) rfl rfl (by decide +kernel) rfl ?_
          refine pe_aloadX_n (j := 0) (by decide +kernel) rfl ?_
          refine pe_iload_n (j := 3) (by decide +kernel) rfl ?_
          refine pe_bipushv (n := 6) (v := 6) (by decide +kernel) (by decide +kernel) ?_
          refine pe_iadd (by decide +kernel) ?_
          refine pe_top (v := 6) (by decide +kernel) ?_
          refine pe_ialdXv (n := 7) (v := x6) (by decide +kernel) rfl rfl (by decide +kernel) rfl ?_
          refine pe_if_eq (off := 7) (t := 1081) (by decide +kernel) (by decide) rfl (fun h118 => ?_) (fun h118 => ?_)
          · skip
            first | exact absurd rfl (by assumption) | (exfalso; simp only [Int32.lt_iff_toInt_lt, Int32.le_iff_toInt_le, ← Int32.toInt_inj, kl_m100000, kl_m3, kl_m2, kl_m1, kl_0, kl_1, kl_2, kl_3, kl_4, kl_5, kl_6, kl_7, kl_8, kl_9, kl_10, kl_11, kl_12, kl_13, kl_14, kl_15, kl_16, kl_17, kl_18, kl_19, kl_20, kl_21, kl_22, kl_23, kl_24, kl_25, kl_26, kl_27, kl_28, kl_29, kl_30, kl_99, kl_100, kl_600, kl_999] at *; omega)
          · skip
            refine pe_iconstv (n := 1) (v := 1) (by decide +kernel) (by decide +kernel) ?_
            refine pe_goto (off := 4) (t := 1082) (by decide +kernel) (by decide) rfl ?_
            refine pe_callV (j := 92) (mj := 272) (by decide +kernel) rfl ?_
            refine pe_iload (j := 5) (by decide +kernel) rfl ?_
            refine pe_iconstv (n := 0) (v := 0) (by decide +kernel) (by decide +kernel) ?_
            refine pe_iconstv (n := 2) (v := 2) (by decide +kernel) (by decide +kernel) ?_
            refine pe_callS (j := 119) (mj := 199) (by decide +kernel) (by decide +kernel) rfl ?_
            refine pe_iload_n (j := 0) (by decide +kernel) rfl ?_
            refine pe_iload_n (j := 1) (by decide +kernel) rfl ?_
            refine pe_icmp_lt (off := 12) (t := 14) (by decide +kernel) (by decide) rfl (fun h119 => ?_) (fun h119 => ?_)
            · skip
              first | exact absurd rfl (by assumption) | (exfalso; simp only [Int32.lt_iff_toInt_lt, Int32.le_iff_toInt_le, ← Int32.toInt_inj, kl_m100000, kl_m3, kl_m2, kl_m1, kl_0, kl_1, kl_2, kl_3, kl_4, kl_5, kl_6, kl_7, kl_8, kl_9, kl_10, kl_11, kl_12, kl_13, kl_14, kl_15, kl_16, kl_17, kl_18, kl_19, kl_20, kl_21, kl_22, kl_23, kl_24, kl_25, kl_26, kl_27, kl_28, kl_29, kl_30, kl_99, kl_100, kl_600, kl_999] at *; omega)
            · skip
              refine pe_iload_n (j := 0) (by decide +kernel) rfl ?_
              refine pe_iload_n (j := 2) (by decide +kernel) rfl ?_
              refine pe_icmp_gt (off := 7) (t := 14) (by decide +kernel) (by decide) rfl (fun h120 => ?_) (fun h120 => ?_)
              · skip
                first | exact absurd rfl (by assumption) | (exfalso; simp only [Int32.lt_iff_toInt_lt, Int32.le_iff_toInt_le, ← Int32.toInt_inj, kl_m100000, kl_m3, kl_m2, kl_m1, kl_0, kl_1, kl_2, kl_3, kl_4, kl_5, kl_6, kl_7, kl_8, kl_9, kl_10, kl_11, kl_12, kl_13, kl_14, kl_15, kl_16, kl_17, kl_18, kl_19, kl_20, kl_21, kl_22, kl_23, kl_24, kl_25, kl_26, kl_27, kl_28, kl_29, kl_30, kl_99, kl_100, kl_600, kl_999] at *; omega)
              · skip
                refine pe_iconstv (n := 1) (v := 1) (by decide +kernel) (by decide +kernel) ?_
                refine pe_goto (off := 4) (t := 15) (by decide +kernel) (by decide) rfl ?_
                refine pe_iret (by decide +kernel) rfl rfl ?_
                show pmE pg _ pg_tyl pg_cl _ 272 7 _ _ _ _
                refine pe_if_eq (off := 33) (t := 40) (by decide +kernel) (by decide) rfl (fun h121 => ?_) (fun h121 => ?_)
                · exact absurd h121 (by decide)
                refine pe_aload_n (j := 0) (by decide +kernel) rfl ?_
                refine pe_iload_n (j := 1) (by decide +kernel) rfl ?_
                refine pe_iload_n (j := 2) (by decide +kernel) rfl ?_
                refine pe_iload_n (j := 3) (by decide +kernel) rfl ?_
                refine pe_iload (j := 4) (by decide +kernel) rfl ?_
                refine pe_callV (j := 303) (mj := 265) (by decide +kernel) rfl ?_
                refine pe_aload_n (j := 0) (by decide +kernel) rfl ?_
                refine pe_iload_n (j := 1) (by decide +kernel) rfl ?_
                refine pe_iload_n (j := 2) (by decide +kernel) rfl ?_
                refine pe_iload_n (j := 3) (by decide +kernel) rfl ?_
                refine pe_callV (j := 232) (mj := 246) (by decide +kernel) rfl ?_
                refine pe_aload_n (j := 0) (by decide +kernel) rfl ?_
                refine pe_iconstv (n := 0) (v := 0) (by decide +kernel) (by decide +kernel) ?_
                refine pe_iload_n (j := 1) (by decide +kernel) rfl ?_
                refine pe_callV (j := 153) (mj := 200) (by decide +kernel) rfl ?_
                refine pe_iload_n (j := 2) (by decide +kernel) rfl ?_
                refine pe_iconstv (n := 0) (v := 0) (by decide +kernel) (by decide +kernel) ?_
                refine pe_aload_n (j := 0) (by decide +kernel) rfl ?_
                refine pe_get (j := 7) (ci := 12) (n := 0) (by decide +kernel) (by decide +kernel) rfl rfl ?_
                refine pe_iload_n (j := 1) (by decide +kernel) rfl ?_
                refine pe_ialdv (n := 6760) (v := 0) (by decide +kernel) rfl rfl (by decide +kernel) rfl ?_
                refine pe_iconstv (n := 1) (v := 1) (by decide +kernel) (by decide +kernel) ?_
                refine pe_isub (by decide +kernel) ?_
                refine pe_top (v := (-1)) (by decide +kernel) ?_
                refine pe_callS (j := 119) (mj := 199) (by decide +kernel) (by decide +kernel) rfl ?_
                refine pe_iload_n (j := 0) (by decide +kernel) rfl ?_
                refine pe_iload_n (j := 1) (by decide +kernel) rfl ?_
                refine pe_icmp_lt (off := 12) (t := 14) (by decide +kernel) (by decide) rfl (fun h122 => ?_) (fun h122 => ?_)
                · skip
                  first | exact absurd rfl (by assumption) | (exfalso; simp only [Int32.lt_iff_toInt_lt, Int32.le_iff_toInt_le, ← Int32.toInt_inj, kl_m100000, kl_m3, kl_m2, kl_m1, kl_0, kl_1, kl_2, kl_3, kl_4, kl_5, kl_6, kl_7, kl_8, kl_9, kl_10, kl_11, kl_12, kl_13, kl_14, kl_15, kl_16, kl_17, kl_18, kl_19, kl_20, kl_21, kl_22, kl_23, kl_24, kl_25, kl_26, kl_27, kl_28, kl_29, kl_30, kl_99, kl_100, kl_600, kl_999] at *; omega)
                · skip
                  refine pe_iload_n (j := 0) (by decide +kernel) rfl ?_
                  refine pe_iload_n (j := 2) (by decide +kernel) rfl ?_
                  refine pe_icmp_gt (off := 7) (t := 14) (by decide +kernel) (by decide) rfl (fun h123 => ?_) (fun h123 => ?_)
                  · skip
                    refine pe_iconstv (n := 0) (v := 0) (by decide +kernel) (by decide +kernel) ?_
                    refine pe_iret (by decide +kernel) rfl rfl ?_
                    show pmE pg _ pg_tyl pg_cl _ 200 13 _ _ _ _
                    refine pe_iret (by decide +kernel) rfl rfl ?_
                    show pmE pg _ pg_tyl pg_cl _ 246 6 _ _ _ _
                    refine pe_if_eq (off := 21) (t := 27) (by decide +kernel) (by decide) rfl (fun h124 => ?_) (fun h124 => ?_)
                    rotate_left
                    · exact absurd h124 (by decide)
                    refine pe_iconstv (n := 0) (v := 0) (by decide +kernel) (by decide +kernel) ?_
                    refine pe_iret (by decide +kernel) rfl rfl ?_
                    show pmE pg _ pg_tyl pg_cl _ 265 7 _ _ _ _
                    refine pe_if_eq (off := 21) (t := 28) (by decide +kernel) (by decide) rfl (fun h125 => ?_) (fun h125 => ?_)
                    rotate_left
                    · exact absurd h125 (by decide)
                    refine pe_iconstv (n := 0) (v := 0) (by decide +kernel) (by decide +kernel) ?_
                    refine pe_iret (by decide +kernel) rfl rfl ?_
                    show pmE pg _ pg_tyl pg_cl _ 272 19 _ _ _ _
                    refine pe_if_eq (off := 21) (t := 40) (by decide +kernel) (by decide) rfl (fun h126 => ?_) (fun h126 => ?_)
                    rotate_left
                    · exact absurd h126 (by decide)
                    refine pe_ldc2 (j := 309) (v := (-1)) (by decide +kernel) (by decide +kernel) ?_
                    refine pe_lret (by decide +kernel) rfl ?_
                    show pmE pg _ pg_tyl pg_cl _ 318 1085 _ _ _ _
                    refine pe_lcmp (by decide +kernel) ?_
                    refine pe_top (v := 0) (by decide +kernel) ?_
                    refine pe_if_eq (off := 1391) (t := 2477) (by decide +kernel) (by decide) rfl (fun h127 => ?_) (fun h127 => ?_)
                    rotate_left
                    · exact absurd h127 (by decide)
                    refine pe_iincv (j := 3) (n := 7) (v := 7) (ls' := [_, _, _, _]) (by decide +kernel) rfl (by decide +kernel) rfl ?_
                    refine pe_goto (off := (-2462)) (t := 18) (by decide +kernel) (by decide) rfl ?_
                    refine pe_iload_n (j := 3) (by decide +kernel) rfl ?_
                    refine pe_aloadX_n (j := 0) (by decide +kernel) rfl ?_
                    refine pe_alenXv (v := 7) (by decide +kernel) rfl (by decide) rfl ?_
                    refine pe_bipushv (n := 7) (v := 7) (by decide +kernel) (by decide +kernel) ?_
                    refine pe_isub (by decide +kernel) ?_
                    refine pe_top (v := 0) (by decide +kernel) ?_
                    refine pe_icmp_gt (off := 2459) (t := 2483) (by decide +kernel) (by decide) rfl (fun h128 => ?_) (fun h128 => ?_)
                    rotate_left
                    · exact absurd h128 (by decide)
                    refine pe_iconstv (n := 1) (v := 1) (by decide +kernel) (by decide +kernel) ?_
                    refine pe_iret (by decide +kernel) rfl rfl ?_
                    exact ⟨rfl, rfl, rfl⟩
                  · skip
                    first | exact absurd rfl (by assumption) | (exfalso; simp only [Int32.lt_iff_toInt_lt, Int32.le_iff_toInt_le, ← Int32.toInt_inj, kl_m100000, kl_m3, kl_m2, kl_m1, kl_0, kl_1, kl_2, kl_3, kl_4, kl_5, kl_6, kl_7, kl_8, kl_9, kl_10, kl_11, kl_12, kl_13, kl_14, kl_15, kl_16, kl_17, kl_18, kl_19, kl_20, kl_21, kl_22, kl_23, kl_24, kl_25, kl_26, kl_27, kl_28, kl_29, kl_30, kl_99, kl_100, kl_600, kl_999] at *; omega)
        · skip
          first | exact absurd rfl (by assumption) | (exfalso; simp only [Int32.lt_iff_toInt_lt, Int32.le_iff_toInt_le, ← Int32.toInt_inj, kl_m100000, kl_m3, kl_m2, kl_m1, kl_0, kl_1, kl_2, kl_3, kl_4, kl_5, kl_6, kl_7, kl_8, kl_9, kl_10, kl_11, kl_12, kl_13, kl_14, kl_15, kl_16, kl_17, kl_18, kl_19, kl_20, kl_21, kl_22, kl_23, kl_24, kl_25, kl_26, kl_27, kl_28, kl_29, kl_30, kl_99, kl_100, kl_600, kl_999] at *; omega)
    · skip
      refine pe_iload_n (j := 0) (by decide +kernel) rfl ?_
      refine pe_iconstv (n := 1) (v := 1) (by decide +kernel) (by decide +kernel) ?_
      refine pe_icmp_eq (off := 8) (t := 14) (by decide +kernel) (by decide) rfl (fun h129 => ?_) (fun h129 => ?_)
      · skip
        refine pe_iconstv (n := 1) (v := 1) (by decide +kernel) (by decide +kernel) ?_
        refine pe_goto (off := 4) (t := 19) (by decide +kernel) (by decide) rfl ?_
        refine pe_iret (by decide +kernel) rfl rfl ?_
        show pmE pg _ pg_tyl pg_cl _ 131 5 _ _ _ _
        refine pe_if_eq (off := 28) (t := 33) (by decide +kernel) (by decide) rfl (fun h130 => ?_) (fun h130 => ?_)
        · exact absurd h130 (by decide)
        refine pe_aload_n (j := 0) (by decide +kernel) rfl ?_
        refine pe_iload_n (j := 1) (by decide +kernel) rfl ?_
        refine pe_iload_n (j := 2) (by decide +kernel) rfl ?_
        refine pe_iload_n (j := 3) (by decide +kernel) rfl ?_
        refine pe_callV (j := 201) (mj := 98) (by decide +kernel) rfl ?_
        refine pe_aload_n (j := 0) (by decide +kernel) rfl ?_
        refine pe_get (j := 12) (ci := 11) (n := 0) (by decide +kernel) (by decide +kernel) rfl rfl ?_
        refine pe_iload_n (j := 1) (by decide +kernel) rfl ?_
        refine pe_callV (j := 111) (mj := 60) (by decide +kernel) rfl ?_
        refine pe_iload_n (j := 1) (by decide +kernel) rfl ?_
        refine pe_if_lt (off := 20) (t := 21) (by decide +kernel) (by decide) rfl (fun h131 => ?_) (fun h131 => ?_)
        · skip
          refine pe_null (by decide +kernel) ?_
          refine pe_nret (by decide +kernel) rfl ?_
          show pmE pg _ pg_tyl pg_cl _ 98 8 _ _ _ _
          refine pe_astoreN (j := 4) (ls' := [_, _, _, _, _, _, _]) (by decide +kernel) (Nat.le_of_ble_eq_true rfl) rfl ?_
          refine pe_aloadN (j := 4) (by decide +kernel) rfl ?_
          refine pe_ifnonnullN (off := 5) (by decide +kernel) ?_
          refine pe_iconstv (n := 0) (v := 0) (by decide +kernel) (by decide +kernel) ?_
          refine pe_iret (by decide +kernel) rfl rfl ?_
          show pmE pg _ pg_tyl pg_cl _ 131 15 _ _ _ _
          refine pe_if_eq (off := 18) (t := 33) (by decide +kernel) (by decide) rfl (fun h132 => ?_) (fun h132 => ?_)
          rotate_left
          · exact absurd h132 (by decide)
          refine pe_iconstv (n := 0) (v := 0) (by decide +kernel) (by decide +kernel) ?_
          refine pe_iret (by decide +kernel) rfl rfl ?_
          show pmE pg _ pg_tyl pg_cl _ 139 11 _ _ _ _
          refine pe_if_ne (off := 7) (t := 18) (by decide +kernel) (by decide) rfl (fun h133 => ?_) (fun h133 => ?_)
          · exact absurd h133 (by decide)
          refine pe_ldc2 (j := 274) (v := (-1)) (by decide +kernel) (by decide +kernel) ?_
          refine pe_lret (by decide +kernel) rfl ?_
          show pmE pg _ pg_tyl pg_cl _ 318 1042 _ _ _ _
          refine pe_aload_n (j := 2) (by decide +kernel) rfl ?_
          refine pe_aloadX_n (j := 0) (by decide +kernel) rfl ?_
          refine pe_iload_n (j := 3) (by decide +kernel) rfl ?_
          refine pe_iconstv (n := 1) (v := 1) (by decide +kernel) (by decide +kernel) ?_
          refine pe_iadd (by decide +kernel) ?_
          refine pe_top (v := 1) (by decide +kernel) ?_
          refine pe_ialdXv (n := 7) (v := x1) (by decide +kernel) rfl rfl (by decide +kernel) rfl ?_
          refine pe_aloadX_n (j := 0) (by decide +kernel) rfl ?_
          refine pe_iload_n (j := 3) (by decide +kernel) rfl ?_
          refine pe_iconstv (n := 2) (v := 2) (by decide +kernel) (by decide +kernel) ?_
          refine pe_iadd (by decide +kernel) ?_
          refine pe_top (v := 2) (by decide +kernel) ?_
          refine pe_ialdXv (n := 7) (v := x2) (by decide +kernel) rfl rfl (by decide +kernel) rfl ?_
          refine pe_aloadX_n (j := 0) (by decide +kernel) rfl ?_
          refine pe_iload_n (j := 3) (by decide +kernel) rfl ?_
          refine pe_iconstv (n := 3) (v := 3) (by decide +kernel) (by decide +kernel) ?_
          refine pe_iadd (by decide +kernel) ?_
          refine pe_top (v := 3) (by decide +kernel) ?_
          refine pe_ialdXv (n := 7) (v := x3) (by decide +kernel) rfl rfl (by decide +kernel) rfl ?_
          refine pe_aloadX_n (j := 0) (by decide +kernel) rfl ?_
          refine pe_iload_n (j := 3) (by decide +kernel) rfl ?_
          refine pe_iconstv (n := 4) (v := 4) (by decide +kernel) (by decide +kernel) ?_
          refine pe_iadd (by decide +kernel) ?_
          refine pe_top (v := 4) (by decide +kernel) ?_
          refine pe_ialdXv (n := 7) (v := x4) (by decide +kernel) rfl rfl (by decide +kernel) rfl ?_
          refine pe_aloadX_n (j := 0) (by decide +kernel) rfl ?_
          refine pe_iload_n (j := 3) (by decide +kernel) rfl ?_
          refine pe_iconstv (n := 5) (v := 5) (by decide +kernel) (by decide +kernel) ?_
          refine pe_iadd (by decide +kernel) ?_
          refine pe_top (v := 5) (by decide +kernel) ?_
          refine pe_ialdXv (n := 7) (v := x5) (by decide +kernel) rfl rfl (by decide +kernel) rfl ?_
          refine pe_aloadX_n (j := 0) (by decide +kernel) rfl ?_
          refine pe_iload_n (j := 3) (by decide +kernel) rfl ?_
          refine pe_bipushv (n := 6) (v := 6) (by decide +kernel) (by decide +kernel) ?_
          refine pe_iadd (by decide +kernel) ?_
          refine pe_top (v := 6) (by decide +kernel) ?_
          refine pe_ialdXv (n := 7) (v := x6) (by decide +kernel) rfl rfl (by decide +kernel) rfl ?_
          refine pe_if_eq (off := 7) (t := 1081) (by decide +kernel) (by decide) rfl (fun h134 => ?_) (fun h134 => ?_)
          · skip
            first | exact absurd rfl (by assumption) | (exfalso; simp only [Int32.lt_iff_toInt_lt, Int32.le_iff_toInt_le, ← Int32.toInt_inj, kl_m100000, kl_m3, kl_m2, kl_m1, kl_0, kl_1, kl_2, kl_3, kl_4, kl_5, kl_6, kl_7, kl_8, kl_9, kl_10, kl_11, kl_12, kl_13, kl_14, kl_15, kl_16, kl_17, kl_18, kl_19, kl_20, kl_21, kl_22, kl_23, kl_24, kl_25, kl_26, kl_27, kl_28, kl_29, kl_30, kl_99, kl_100, kl_600, kl_999] at *; omega)
          · skip
            refine pe_iconstv (n := 1) (v := 1) (by decide +kernel) (by decide +kernel) ?_
            refine pe_goto (off := 4) (t := 1082) (by decide +kernel) (by decide) rfl ?_
            refine pe_callV (j := 92) (mj := 272) (by decide +kernel) rfl ?_
            refine pe_iload (j := 5) (by decide +kernel) rfl ?_
            refine pe_iconstv (n := 0) (v := 0) (by decide +kernel) (by decide +kernel) ?_
            refine pe_iconstv (n := 2) (v := 2) (by decide +kernel) (by decide +kernel) ?_
            refine pe_callS (j := 119) (mj := 199) (by decide +kernel) (by decide +kernel) rfl ?_
            refine pe_iload_n (j := 0) (by decide +kernel) rfl ?_
            refine pe_iload_n (j := 1) (by decide +kernel) rfl ?_
            refine pe_icmp_lt (off := 12) (t := 14) (by decide +kernel) (by decide) rfl (fun h135 => ?_) (fun h135 => ?_)
            · skip
              first | exact absurd rfl (by assumption) | (exfalso; simp only [Int32.lt_iff_toInt_lt, Int32.le_iff_toInt_le, ← Int32.toInt_inj, kl_m100000, kl_m3, kl_m2, kl_m1, kl_0, kl_1, kl_2, kl_3, kl_4, kl_5, kl_6, kl_7, kl_8, kl_9, kl_10, kl_11, kl_12, kl_13, kl_14, kl_15, kl_16, kl_17, kl_18, kl_19, kl_20, kl_21, kl_22, kl_23, kl_24, kl_25, kl_26, kl_27, kl_28, kl_29, kl_30, kl_99, kl_100, kl_600, kl_999] at *; omega)
            · skip
              refine pe_iload_n (j := 0) (by decide +kernel) rfl ?_
              refine pe_iload_n (j := 2) (by decide +kernel) rfl ?_
              refine pe_icmp_gt (off := 7) (t := 14) (by decide +kernel) (by decide) rfl (fun h136 => ?_) (fun h136 => ?_)
              · skip
                first | exact absurd rfl (by assumption) | (exfalso; simp only [Int32.lt_iff_toInt_lt, Int32.le_iff_toInt_le, ← Int32.toInt_inj, kl_m100000, kl_m3, kl_m2, kl_m1, kl_0, kl_1, kl_2, kl_3, kl_4, kl_5, kl_6, kl_7, kl_8, kl_9, kl_10, kl_11, kl_12, kl_13, kl_14, kl_15, kl_16, kl_17, kl_18, kl_19, kl_20, kl_21, kl_22, kl_23, kl_24, kl_25, kl_26, kl_27, kl_28, kl_29, kl_30, kl_99, kl_100, kl_600, kl_999] at *; omega)
              · skip
                refine pe_iconstv (n := 1) (v := 1) (by decide +kernel) (by decide +kernel) ?_
                refine pe_goto (off := 4) (t := 15) (by decide +kernel) (by decide) rfl ?_
                refine pe_iret (by decide +kernel) rfl rfl ?_
                show pmE pg _ pg_tyl pg_cl _ 272 7 _ _ _ _
                refine pe_if_eq (off := 33) (t := 40) (by decide +kernel) (by decide) rfl (fun h137 => ?_) (fun h137 => ?_)
                · exact absurd h137 (by decide)
                refine pe_aload_n (j := 0) (by decide +kernel) rfl ?_
                refine pe_iload_n (j := 1) (by decide +kernel) rfl ?_
                refine pe_iload_n (j := 2) (by decide +kernel) rfl ?_
                refine pe_iload_n (j := 3) (by decide +kernel) rfl ?_
                refine pe_iload (j := 4) (by decide +kernel) rfl ?_
                refine pe_callV (j := 303) (mj := 265) (by decide +kernel) rfl ?_
                refine pe_aload_n (j := 0) (by decide +kernel) rfl ?_
                refine pe_iload_n (j := 1) (by decide +kernel) rfl ?_
                refine pe_iload_n (j := 2) (by decide +kernel) rfl ?_
                refine pe_iload_n (j := 3) (by decide +kernel) rfl ?_
                refine pe_callV (j := 232) (mj := 246) (by decide +kernel) rfl ?_
                refine pe_aload_n (j := 0) (by decide +kernel) rfl ?_
                refine pe_iconstv (n := 0) (v := 0) (by decide +kernel) (by decide +kernel) ?_
                refine pe_iload_n (j := 1) (by decide +kernel) rfl ?_
                refine pe_callV (j := 153) (mj := 200) (by decide +kernel) rfl ?_
                refine pe_iload_n (j := 2) (by decide +kernel) rfl ?_
                refine pe_iconstv (n := 0) (v := 0) (by decide +kernel) (by decide +kernel) ?_
                refine pe_aload_n (j := 0) (by decide +kernel) rfl ?_
                refine pe_get (j := 7) (ci := 12) (n := 0) (by decide +kernel) (by decide +kernel) rfl rfl ?_
                refine pe_iload_n (j := 1) (by decide +kernel) rfl ?_
                refine pe_ialdv (n := 6760) (v := 0) (by decide +kernel) rfl rfl (by decide +kernel) rfl ?_
                refine pe_iconstv (n := 1) (v := 1) (by decide +kernel) (by decide +kernel) ?_
                refine pe_isub (by decide +kernel) ?_
                refine pe_top (v := (-1)) (by decide +kernel) ?_
                refine pe_callS (j := 119) (mj := 199) (by decide +kernel) (by decide +kernel) rfl ?_
                refine pe_iload_n (j := 0) (by decide +kernel) rfl ?_
                refine pe_iload_n (j := 1) (by decide +kernel) rfl ?_
                refine pe_icmp_lt (off := 12) (t := 14) (by decide +kernel) (by decide) rfl (fun h138 => ?_) (fun h138 => ?_)
                · skip
                  refine pe_iconstv (n := 0) (v := 0) (by decide +kernel) (by decide +kernel) ?_
                  refine pe_iret (by decide +kernel) rfl rfl ?_
                  show pmE pg _ pg_tyl pg_cl _ 200 13 _ _ _ _
                  refine pe_iret (by decide +kernel) rfl rfl ?_
                  show pmE pg _ pg_tyl pg_cl _ 246 6 _ _ _ _
                  refine pe_if_eq (off := 21) (t := 27) (by decide +kernel) (by decide) rfl (fun h139 => ?_) (fun h139 => ?_)
                  rotate_left
                  · exact absurd h139 (by decide)
                  refine pe_iconstv (n := 0) (v := 0) (by decide +kernel) (by decide +kernel) ?_
                  refine pe_iret (by decide +kernel) rfl rfl ?_
                  show pmE pg _ pg_tyl pg_cl _ 265 7 _ _ _ _
                  refine pe_if_eq (off := 21) (t := 28) (by decide +kernel) (by decide) rfl (fun h140 => ?_) (fun h140 => ?_)
                  rotate_left
                  · exact absurd h140 (by decide)
                  refine pe_iconstv (n := 0) (v := 0) (by decide +kernel) (by decide +kernel) ?_
                  refine pe_iret (by decide +kernel) rfl rfl ?_
                  show pmE pg _ pg_tyl pg_cl _ 272 19 _ _ _ _
                  refine pe_if_eq (off := 21) (t := 40) (by decide +kernel) (by decide) rfl (fun h141 => ?_) (fun h141 => ?_)
                  rotate_left
                  · exact absurd h141 (by decide)
                  refine pe_ldc2 (j := 309) (v := (-1)) (by decide +kernel) (by decide +kernel) ?_
                  refine pe_lret (by decide +kernel) rfl ?_
                  show pmE pg _ pg_tyl pg_cl _ 318 1085 _ _ _ _
                  refine pe_lcmp (by decide +kernel) ?_
                  refine pe_top (v := 0) (by decide +kernel) ?_
                  refine pe_if_eq (off := 1391) (t := 2477) (by decide +kernel) (by decide) rfl (fun h142 => ?_) (fun h142 => ?_)
                  rotate_left
                  · exact absurd h142 (by decide)
                  refine pe_iincv (j := 3) (n := 7) (v := 7) (ls' := [_, _, _, _]) (by decide +kernel) rfl (by decide +kernel) rfl ?_
                  refine pe_goto (off := (-2462)) (t := 18) (by decide +kernel) (by decide) rfl ?_
                  refine pe_iload_n (j := 3) (by decide +kernel) rfl ?_
                  refine pe_aloadX_n (j := 0) (by decide +kernel) rfl ?_
                  refine pe_alenXv (v := 7) (by decide +kernel) rfl (by decide) rfl ?_
                  refine pe_bipushv (n := 7) (v := 7) (by decide +kernel) (by decide +kernel) ?_
                  refine pe_isub (by decide +kernel) ?_
                  refine pe_top (v := 0) (by decide +kernel) ?_
                  refine pe_icmp_gt (off := 2459) (t := 2483) (by decide +kernel) (by decide) rfl (fun h143 => ?_) (fun h143 => ?_)
                  rotate_left
                  · exact absurd h143 (by decide)
                  refine pe_iconstv (n := 1) (v := 1) (by decide +kernel) (by decide +kernel) ?_
                  refine pe_iret (by decide +kernel) rfl rfl ?_
                  exact ⟨rfl, rfl, rfl⟩
                · skip
                  first | exact absurd rfl (by assumption) | (exfalso; simp only [Int32.lt_iff_toInt_lt, Int32.le_iff_toInt_le, ← Int32.toInt_inj, kl_m100000, kl_m3, kl_m2, kl_m1, kl_0, kl_1, kl_2, kl_3, kl_4, kl_5, kl_6, kl_7, kl_8, kl_9, kl_10, kl_11, kl_12, kl_13, kl_14, kl_15, kl_16, kl_17, kl_18, kl_19, kl_20, kl_21, kl_22, kl_23, kl_24, kl_25, kl_26, kl_27, kl_28, kl_29, kl_30, kl_99, kl_100, kl_600, kl_999] at *; omega)
        · skip
          refine pe_iload_n (j := 1) (by decide +kernel) rfl ?_
          refine pe_aload_n (j := 0) (by decide +kernel) rfl ?_
          refine pe_get (j := 33) (ci := 8) (n := 2) (by decide +kernel) (by decide +kernel) rfl rfl ?_
          refine pe_icmp_ge (off := 12) (t := 21) (by decide +kernel) (by decide) rfl (fun h144 => ?_) (fun h144 => ?_)
          · skip
            refine pe_null (by decide +kernel) ?_
            refine pe_nret (by decide +kernel) rfl ?_
            show pmE pg _ pg_tyl pg_cl _ 98 8 _ _ _ _
            refine pe_astoreN (j := 4) (ls' := [_, _, _, _, _, _, _]) (by decide +kernel) (Nat.le_of_ble_eq_true rfl) rfl ?_
            refine pe_aloadN (j := 4) (by decide +kernel) rfl ?_
            refine pe_ifnonnullN (off := 5) (by decide +kernel) ?_
            refine pe_iconstv (n := 0) (v := 0) (by decide +kernel) (by decide +kernel) ?_
            refine pe_iret (by decide +kernel) rfl rfl ?_
            show pmE pg _ pg_tyl pg_cl _ 131 15 _ _ _ _
            refine pe_if_eq (off := 18) (t := 33) (by decide +kernel) (by decide) rfl (fun h145 => ?_) (fun h145 => ?_)
            rotate_left
            · exact absurd h145 (by decide)
            refine pe_iconstv (n := 0) (v := 0) (by decide +kernel) (by decide +kernel) ?_
            refine pe_iret (by decide +kernel) rfl rfl ?_
            show pmE pg _ pg_tyl pg_cl _ 139 11 _ _ _ _
            refine pe_if_ne (off := 7) (t := 18) (by decide +kernel) (by decide) rfl (fun h146 => ?_) (fun h146 => ?_)
            · exact absurd h146 (by decide)
            refine pe_ldc2 (j := 274) (v := (-1)) (by decide +kernel) (by decide +kernel) ?_
            refine pe_lret (by decide +kernel) rfl ?_
            show pmE pg _ pg_tyl pg_cl _ 318 1042 _ _ _ _
            refine pe_aload_n (j := 2) (by decide +kernel) rfl ?_
            refine pe_aloadX_n (j := 0) (by decide +kernel) rfl ?_
            refine pe_iload_n (j := 3) (by decide +kernel) rfl ?_
            refine pe_iconstv (n := 1) (v := 1) (by decide +kernel) (by decide +kernel) ?_
            refine pe_iadd (by decide +kernel) ?_
            refine pe_top (v := 1) (by decide +kernel) ?_
            refine pe_ialdXv (n := 7) (v := x1) (by decide +kernel) rfl rfl (by decide +kernel) rfl ?_
            refine pe_aloadX_n (j := 0) (by decide +kernel) rfl ?_
            refine pe_iload_n (j := 3) (by decide +kernel) rfl ?_
            refine pe_iconstv (n := 2) (v := 2) (by decide +kernel) (by decide +kernel) ?_
            refine pe_iadd (by decide +kernel) ?_
            refine pe_top (v := 2) (by decide +kernel) ?_
            refine pe_ialdXv (n := 7) (v := x2) (by decide +kernel) rfl rfl (by decide +kernel) rfl ?_
            refine pe_aloadX_n (j := 0) (by decide +kernel) rfl ?_
            refine pe_iload_n (j := 3) (by decide +kernel) rfl ?_
            refine pe_iconstv (n := 3) (v := 3) (by decide +kernel) (by decide +kernel) ?_
            refine pe_iadd (by decide +kernel) ?_
            refine pe_top (v := 3) (by decide +kernel) ?_
            refine pe_ialdXv (n := 7) (v := x3) (by decide +kernel) rfl rfl (by decide +kernel) rfl ?_
            refine pe_aloadX_n (j := 0) (by decide +kernel) rfl ?_
            refine pe_iload_n (j := 3) (by decide +kernel) rfl ?_
            refine pe_iconstv (n := 4) (v := 4) (by decide +kernel) (by decide +kernel) ?_
            refine pe_iadd (by decide +kernel) ?_
            refine pe_top (v := 4) (by decide +kernel) ?_
            refine pe_ialdXv (n := 7) (v := x4) (by decide +kernel) rfl rfl (by decide +kernel) rfl ?_
            refine pe_aloadX_n (j := 0) (by decide +kernel) rfl ?_
            refine pe_iload_n (j := 3) (by decide +kernel) rfl ?_
            refine pe_iconstv (n := 5) (v := 5) (by decide +kernel) (by decide +kernel) ?_
            refine pe_iadd (by decide +kernel) ?_
            refine pe_top (v := 5) (by decide +kernel) ?_
            refine pe_ialdXv (n := 7) (v := x5) (by decide +kernel) rfl rfl (by decide +kernel) rfl ?_
            refine pe_aloadX_n (j := 0) (by decide +kernel) rfl ?_
            refine pe_iload_n (j := 3) (by decide +kernel) rfl ?_
            refine pe_bipushv (n := 6) (v := 6) (by decide +kernel) (by decide +kernel) ?_
            refine pe_iadd (by decide +kernel) ?_
            refine pe_top (v := 6) (by decide +kernel) ?_
            refine pe_ialdXv (n := 7) (v := x6) (by decide +kernel) rfl rfl (by decide +kernel) rfl ?_
            refine pe_if_eq (off := 7) (t := 1081) (by decide +kernel) (by decide) rfl (fun h147 => ?_) (fun h147 => ?_)
            · skip
              first | exact absurd rfl (by assumption) | (exfalso; simp only [Int32.lt_iff_toInt_lt, Int32.le_iff_toInt_le, ← Int32.toInt_inj, kl_m100000, kl_m3, kl_m2, kl_m1, kl_0, kl_1, kl_2, kl_3, kl_4, kl_5, kl_6, kl_7, kl_8, kl_9, kl_10, kl_11, kl_12, kl_13, kl_14, kl_15, kl_16, kl_17, kl_18, kl_19, kl_20, kl_21, kl_22, kl_23, kl_24, kl_25, kl_26, kl_27, kl_28, kl_29, kl_30, kl_99, kl_100, kl_600, kl_999] at *; omega)
            · skip
              refine pe_iconstv (n := 1) (v := 1) (by decide +kernel) (by decide +kernel) ?_
              refine pe_goto (off := 4) (t := 1082) (by decide +kernel) (by decide) rfl ?_
              refine pe_callV (j := 92) (mj := 272) (by decide +kernel) rfl ?_
              refine pe_iload (j := 5) (by decide +kernel) rfl ?_
              refine pe_iconstv (n := 0) (v := 0) (by decide +kernel) (by decide +kernel) ?_
              refine pe_iconstv (n := 2) (v := 2) (by decide +kernel) (by decide +kernel) ?_
              refine pe_callS (j := 119) (mj := 199) (by decide +kernel) (by decide +kernel) rfl ?_
              refine pe_iload_n (j := 0) (by decide +kernel) rfl ?_
              refine pe_iload_n (j := 1) (by decide +kernel) rfl ?_
              refine pe_icmp_lt (off := 12) (t := 14) (by decide +kernel) (by decide) rfl (fun h148 => ?_) (fun h148 => ?_)
              · skip
                first | exact absurd rfl (by assumption) | (exfalso; simp only [Int32.lt_iff_toInt_lt, Int32.le_iff_toInt_le, ← Int32.toInt_inj, kl_m100000, kl_m3, kl_m2, kl_m1, kl_0, kl_1, kl_2, kl_3, kl_4, kl_5, kl_6, kl_7, kl_8, kl_9, kl_10, kl_11, kl_12, kl_13, kl_14, kl_15, kl_16, kl_17, kl_18, kl_19, kl_20, kl_21, kl_22, kl_23, kl_24, kl_25, kl_26, kl_27, kl_28, kl_29, kl_30, kl_99, kl_100, kl_600, kl_999] at *; omega)
              · skip
                refine pe_iload_n (j := 0) (by decide +kernel) rfl ?_
                refine pe_iload_n (j := 2) (by decide +kernel) rfl ?_
                refine pe_icmp_gt (off := 7) (t := 14) (by decide +kernel) (by decide) rfl (fun h149 => ?_) (fun h149 => ?_)
                · skip
                  first | exact absurd rfl (by assumption) | (exfalso; simp only [Int32.lt_iff_toInt_lt, Int32.le_iff_toInt_le, ← Int32.toInt_inj, kl_m100000, kl_m3, kl_m2, kl_m1, kl_0, kl_1, kl_2, kl_3, kl_4, kl_5, kl_6, kl_7, kl_8, kl_9, kl_10, kl_11, kl_12, kl_13, kl_14, kl_15, kl_16, kl_17, kl_18, kl_19, kl_20, kl_21, kl_22, kl_23, kl_24, kl_25, kl_26, kl_27, kl_28, kl_29, kl_30, kl_99, kl_100, kl_600, kl_999] at *; omega)
                · skip
                  refine pe_iconstv (n := 1) (v := 1) (by decide +kernel) (by decide +kernel) ?_
                  refine pe_goto (off := 4) (t := 15) (by decide +kernel) (by decide) rfl ?_
                  refine pe_iret (by decide +kernel) rfl rfl ?_
                  show pmE pg _ pg_tyl pg_cl _ 272 7 _ _ _ _
                  refine pe_if_eq (off := 33) (t := 40) (by decide +kernel) (by decide) rfl (fun h150 => ?_) (fun h150 => ?_)
                  · exact absurd h150 (by decide)
                  refine pe_aload_n (j := 0) (by decide +kernel) rfl ?_
                  refine pe_iload_n (j := 1) (by decide +kernel) rfl ?_
                  refine pe_iload_n (j := 2) (by decide +kernel) rfl ?_
                  refine pe_iload_n (j := 3) (by decide +kernel) rfl ?_
                  refine pe_iload (j := 4) (by decide +kernel) rfl ?_
                  refine pe_callV (j := 303) (mj := 265) (by decide +kernel) rfl ?_
                  refine pe_aload_n (j := 0) (by decide +kernel) rfl ?_
                  refine pe_iload_n (j := 1) (by decide +kernel) rfl ?_
                  refine pe_iload_n (j := 2) (by decide +kernel) rfl ?_
                  refine pe_iload_n (j := 3) (by decide +kernel) rfl ?_
                  refine pe_callV (j := 232) (mj := 246) (by decide +kernel) rfl ?_
                  refine pe_aload_n (j := 0) (by decide +kernel) rfl ?_
                  refine pe_iconstv (n := 0) (v := 0) (by decide +kernel) (by decide +kernel) ?_
                  refine pe_iload_n (j := 1) (by decide +kernel) rfl ?_
                  refine pe_callV (j := 153) (mj := 200) (by decide +kernel) rfl ?_
                  refine pe_iload_n (j := 2) (by decide +kernel) rfl ?_
                  refine pe_iconstv (n := 0) (v := 0) (by decide +kernel) (by decide +kernel) ?_
                  refine pe_aload_n (j := 0) (by decide +kernel) rfl ?_
                  refine pe_get (j := 7) (ci := 12) (n := 0) (by decide +kernel) (by decide +kernel) rfl rfl ?_
                  refine pe_iload_n (j := 1) (by decide +kernel) rfl ?_
                  refine pe_ialdv (n := 6760) (v := 0) (by decide +kernel) rfl rfl (by decide +kernel) rfl ?_
                  refine pe_iconstv (n := 1) (v := 1) (by decide +kernel) (by decide +kernel) ?_
                  refine pe_isub (by decide +kernel) ?_
                  refine pe_top (v := (-1)) (by decide +kernel) ?_
                  refine pe_callS (j := 119) (mj := 199) (by decide +kernel) (by decide +kernel) rfl ?_
                  refine pe_iload_n (j := 0) (by decide +kernel) rfl ?_
                  refine pe_iload_n (j := 1) (by decide +kernel) rfl ?_
                  refine pe_icmp_lt (off := 12) (t := 14) (by decide +kernel) (by decide) rfl (fun h151 => ?_) (fun h151 => ?_)
                  · skip
                    first | exact absurd rfl (by assumption) | (exfalso; simp only [Int32.lt_iff_toInt_lt, Int32.le_iff_toInt_le, ← Int32.toInt_inj, kl_m100000, kl_m3, kl_m2, kl_m1, kl_0, kl_1, kl_2, kl_3, kl_4, kl_5, kl_6, kl_7, kl_8, kl_9, kl_10, kl_11, kl_12, kl_13, kl_14, kl_15, kl_16, kl_17, kl_18, kl_19, kl_20, kl_21, kl_22, kl_23, kl_24, kl_25, kl_26, kl_27, kl_28, kl_29, kl_30, kl_99, kl_100, kl_600, kl_999] at *; omega)
                  · skip
                    refine pe_iload_n (j := 0) (by decide +kernel) rfl ?_
                    refine pe_iload_n (j := 2) (by decide +kernel) rfl ?_
                    refine pe_icmp_gt (off := 7) (t := 14) (by decide +kernel) (by decide) rfl (fun h152 => ?_) (fun h152 => ?_)
                    · skip
                      refine pe_iconstv (n := 0) (v := 0) (by decide +kernel) (by decide +kernel) ?_
                      refine pe_iret (by decide +kernel) rfl rfl ?_
                      show pmE pg _ pg_tyl pg_cl _ 200 13 _ _ _ _
                      refine pe_iret (by decide +kernel) rfl rfl ?_
                      show pmE pg _ pg_tyl pg_cl _ 246 6 _ _ _ _
                      refine pe_if_eq (off := 21) (t := 27) (by decide +kernel) (by decide) rfl (fun h153 => ?_) (fun h153 => ?_)
                      rotate_left
                      · exact absurd h153 (by decide)
                      refine pe_iconstv (n := 0) (v := 0) (by decide +kernel) (by decide +kernel) ?_
                      refine pe_iret (by decide +kernel) rfl rfl ?_
                      show pmE pg _ pg_tyl pg_cl _ 265 7 _ _ _ _
                      refine pe_if_eq (off := 21) (t := 28) (by decide +kernel) (by decide) rfl (fun h154 => ?_) (fun h154 => ?_)
                      rotate_left
                      · exact absurd h154 (by decide)
                      refine pe_iconstv (n := 0) (v := 0) (by decide +kernel) (by decide +kernel) ?_
                      refine pe_iret (by decide +kernel) rfl rfl ?_
                      show pmE pg _ pg_tyl pg_cl _ 272 19 _ _ _ _
                      refine pe_if_eq (off := 21) (t := 40) (by decide +kernel) (by decide) rfl (fun h155 => ?_) (fun h155 => ?_)
                      rotate_left
                      · exact absurd h155 (by decide)
                      refine pe_ldc2 (j := 309) (v := (-1)) (by decide +kernel) (by decide +kernel) ?_
                      refine pe_lret (by decide +kernel) rfl ?_
                      show pmE pg _ pg_tyl pg_cl _ 318 1085 _ _ _ _
                      refine pe_lcmp (by decide +kernel) ?_
                      refine pe_top (v := 0) (by decide +kernel) ?_
                      refine pe_if_eq (off := 1391) (t := 2477) (by decide +kernel) (by decide) rfl (fun h156 => ?_) (fun h156 => ?_)
                      rotate_left
                      · exact absurd h156 (by decide)
                      refine pe_iincv (j := 3) (n := 7) (v := 7) (ls' := [_, _, _, _]) (by decide +kernel) rfl (by decide +kernel) rfl ?_
                      refine pe_goto (off := (-2462)) (t := 18) (by decide +kernel) (by decide) rfl ?_
                      refine pe_iload_n (j := 3) (by decide +kernel) rfl ?_
                      refine pe_aloadX_n (j := 0) (by decide +kernel) rfl ?_
                      refine pe_alenXv (v := 7) (by decide +kernel) rfl (by decide) rfl ?_
                      refine pe_bipushv (n := 7) (v := 7) (by decide +kernel) (by decide +kernel) ?_
                      refine pe_isub (by decide +kernel) ?_
                      refine pe_top (v := 0) (by decide +kernel) ?_
                      refine pe_icmp_gt (off := 2459) (t := 2483) (by decide +kernel) (by decide) rfl (fun h157 => ?_) (fun h157 => ?_)
                      rotate_left
                      · exact absurd h157 (by decide)
                      refine pe_iconstv (n := 1) (v := 1) (by decide +kernel) (by decide +kernel) ?_
                      refine pe_iret (by decide +kernel) rfl rfl ?_
                      exact ⟨rfl, rfl, rfl⟩
                    · skip
                      first | exact absurd rfl (by assumption) | (exfalso; simp only [Int32.lt_iff_toInt_lt, Int32.le_iff_toInt_le, ← Int32.toInt_inj, kl_m100000, kl_m3, kl_m2, kl_m1, kl_0, kl_1, kl_2, kl_3, kl_4, kl_5, kl_6, kl_7, kl_8, kl_9, kl_10, kl_11, kl_12, kl_13, kl_14, kl_15, kl_16, kl_17, kl_18, kl_19, kl_20, kl_21, kl_22, kl_23, kl_24, kl_25, kl_26, kl_27, kl_28, kl_29, kl_30, kl_99, kl_100, kl_600, kl_999] at *; omega)
          · skip
            first | exact absurd rfl (by assumption) | (exfalso; simp only [Int32.lt_iff_toInt_lt, Int32.le_iff_toInt_le, ← Int32.toInt_inj, kl_m100000, kl_m3, kl_m2, kl_m1, kl_0, kl_1, kl_2, kl_3, kl_4, kl_5, kl_6, kl_7, kl_8, kl_9, kl_10, kl_11, kl_12, kl_13, kl_14, kl_15, kl_16, kl_17, kl_18, kl_19, kl_20, kl_21, kl_22, kl_23, kl_24, kl_25, kl_26, kl_27, kl_28, kl_29, kl_30, kl_99, kl_100, kl_600, kl_999] at *; omega)
      · skip
        refine pe_iload_n (j := 0) (by decide +kernel) rfl ?_
        refine pe_iconstv (n := 2) (v := 2) (by decide +kernel) (by decide +kernel) ?_
        refine pe_icmp_ne (off := 7) (t := 18) (by decide +kernel) (by decide) rfl (fun h158 => ?_) (fun h158 => ?_)
        · skip
          refine pe_iconstv (n := 0) (v := 0) (by decide +kernel) (by decide +kernel) ?_
          refine pe_iret (by decide +kernel) rfl rfl ?_
          show pmE pg _ pg_tyl pg_cl _ 131 5 _ _ _ _
          refine pe_if_eq (off := 28) (t := 33) (by decide +kernel) (by decide) rfl (fun h159 => ?_) (fun h159 => ?_)
          rotate_left
          · exact absurd h159 (by decide)
          refine pe_iconstv (n := 0) (v := 0) (by decide +kernel) (by decide +kernel) ?_
          refine pe_iret (by decide +kernel) rfl rfl ?_
          show pmE pg _ pg_tyl pg_cl _ 139 11 _ _ _ _
          refine pe_if_ne (off := 7) (t := 18) (by decide +kernel) (by decide) rfl (fun h160 => ?_) (fun h160 => ?_)
          · exact absurd h160 (by decide)
          refine pe_ldc2 (j := 274) (v := (-1)) (by decide +kernel) (by decide +kernel) ?_
          refine pe_lret (by decide +kernel) rfl ?_
          show pmE pg _ pg_tyl pg_cl _ 318 1042 _ _ _ _
          refine pe_aload_n (j := 2) (by decide +kernel) rfl ?_
          refine pe_aloadX_n (j := 0) (by decide +kernel) rfl ?_
          refine pe_iload_n (j := 3) (by decide +kernel) rfl ?_
          refine pe_iconstv (n := 1) (v := 1) (by decide +kernel) (by decide +kernel) ?_
          refine pe_iadd (by decide +kernel) ?_
          refine pe_top (v := 1) (by decide +kernel) ?_
          refine pe_ialdXv (n := 7) (v := x1) (by decide +kernel) rfl rfl (by decide +kernel) rfl ?_
          refine pe_aloadX_n (j := 0) (by decide +kernel) rfl ?_
          refine pe_iload_n (j := 3) (by decide +kernel) rfl ?_
          refine pe_iconstv (n := 2) (v := 2) (by decide +kernel) (by decide +kernel) ?_
          refine pe_iadd (by decide +kernel) ?_
          refine pe_top (v := 2) (by decide +kernel) ?_
          refine pe_ialdXv (n := 7) (v := x2) (by decide +kernel) rfl rfl (by decide +kernel) rfl ?_
          refine pe_aloadX_n (j := 0) (by decide +kernel) rfl ?_
          refine pe_iload_n (j := 3) (by decide +kernel) rfl ?_
          refine pe_iconstv (n := 3) (v := 3) (by decide +kernel) (by decide +kernel) ?_
          refine pe_iadd (by decide +kernel) ?_
          refine pe_top (v := 3) (by decide +kernel) ?_
          refine pe_ialdXv (n := 7) (v := x3) (by decide +kernel) rfl rfl (by decide +kernel) rfl ?_
          refine pe_aloadX_n (j := 0) (by decide +kernel) rfl ?_
          refine pe_iload_n (j := 3) (by decide +kernel) rfl ?_
          refine pe_iconstv (n := 4) (v := 4) (by decide +kernel) (by decide +kernel) ?_
          refine pe_iadd (by decide +kernel) ?_
          refine pe_top (v := 4) (by decide +kernel) ?_
          refine pe_ialdXv (n := 7) (v := x4) (by decide +kernel) rfl rfl (by decide +kernel) rfl ?_
          refine pe_aloadX_n (j := 0) (by decide +kernel) rfl ?_
          refine pe_iload_n (j := 3) (by decide +kernel) rfl ?_
          refine pe_iconstv (n := 5) (v := 5) (by decide +kernel) (by decide +kernel) ?_
          refine pe_iadd (by decide +kernel) ?_
          refine pe_top (v := 5) (by decide +kernel) ?_
          refine pe_ialdXv (n := 7) (v := x5) (by decide +kernel) rfl rfl (by decide +kernel) rfl ?_
          refine pe_aloadX_n (j := 0) (by decide +kernel) rfl ?_
          refine pe_iload_n (j := 3) (by decide +kernel) rfl ?_
          refine pe_bipushv (n := 6) (v := 6) (by decide +kernel) (by decide +kernel) ?_
          refine pe_iadd (by decide +kernel) ?_
          refine pe_top (v := 6) (by decide +kernel) ?_
          refine pe_ialdXv (n := 7) (v := x6) (by decide +kernel) rfl rfl (by decide +kernel) rfl ?_
          refine pe_if_eq (off := 7) (t := 1081) (by decide +kernel) (by decide) rfl (fun h161 => ?_) (fun h161 => ?_)
          · skip
            first | exact absurd rfl (by assumption) | (exfalso; simp only [Int32.lt_iff_toInt_lt, Int32.le_iff_toInt_le, ← Int32.toInt_inj, kl_m100000, kl_m3, kl_m2, kl_m1, kl_0, kl_1, kl_2, kl_3, kl_4, kl_5, kl_6, kl_7, kl_8, kl_9, kl_10, kl_11, kl_12, kl_13, kl_14, kl_15, kl_16, kl_17, kl_18, kl_19, kl_20, kl_21, kl_22, kl_23, kl_24, kl_25, kl_26, kl_27, kl_28, kl_29, kl_30, kl_99, kl_100, kl_600, kl_999] at *; omega)
          · skip
            refine pe_iconstv (n := 1) (v := 1) (by decide +kernel) (by decide +kernel) ?_
            refine pe_goto (off := 4) (t := 1082) (by decide +kernel) (by decide) rfl ?_
            refine pe_callV (j := 92) (mj := 272) (by decide +kernel) rfl ?_
            refine pe_iload (j := 5) (by decide +kernel) rfl ?_
            refine pe_iconstv (n := 0) (v := 0) (by decide +kernel) (by decide +kernel) ?_
            refine pe_iconstv (n := 2) (v := 2) (by decide +kernel) (by decide +kernel) ?_
            refine pe_callS (j := 119) (mj := 199) (by decide +kernel) (by decide +kernel) rfl ?_
            refine pe_iload_n (j := 0) (by decide +kernel) rfl ?_
            refine pe_iload_n (j := 1) (by decide +kernel) rfl ?_
            refine pe_icmp_lt (off := 12) (t := 14) (by decide +kernel) (by decide) rfl (fun h162 => ?_) (fun h162 => ?_)
            · skip
              refine pe_iconstv (n := 0) (v := 0) (by decide +kernel) (by decide +kernel) ?_
              refine pe_iret (by decide +kernel) rfl rfl ?_
              show pmE pg _ pg_tyl pg_cl _ 272 7 _ _ _ _
              refine pe_if_eq (off := 33) (t := 40) (by decide +kernel) (by decide) rfl (fun h163 => ?_) (fun h163 => ?_)
              rotate_left
              · exact absurd h163 (by decide)
              refine pe_ldc2 (j := 309) (v := (-1)) (by decide +kernel) (by decide +kernel) ?_
              refine pe_lret (by decide +kernel) rfl ?_
              show pmE pg _ pg_tyl pg_cl _ 318 1085 _ _ _ _
              refine pe_lcmp (by decide +kernel) ?_
              refine pe_top (v := 0) (by decide +kernel) ?_
              refine pe_if_eq (off := 1391) (t := 2477) (by decide +kernel) (by decide) rfl (fun h164 => ?_) (fun h164 => ?_)
              rotate_left
              · exact absurd h164 (by decide)
              refine pe_iincv (j := 3) (n := 7) (v := 7) (ls' := [_, _, _, _]) (by decide +kernel) rfl (by decide +kernel) rfl ?_
              refine pe_goto (off := (-2462)) (t := 18) (by decide +kernel) (by decide) rfl ?_
              refine pe_iload_n (j := 3) (by decide +kernel) rfl ?_
              refine pe_aloadX_n (j := 0) (by decide +kernel) rfl ?_
              refine pe_alenXv (v := 7) (by decide +kernel) rfl (by decide) rfl ?_
              refine pe_bipushv (n := 7) (v := 7) (by decide +kernel) (by decide +kernel) ?_
              refine pe_isub (by decide +kernel) ?_
              refine pe_top (v := 0) (by decide +kernel) ?_
              refine pe_icmp_gt (off := 2459) (t := 2483) (by decide +kernel) (by decide) rfl (fun h165 => ?_) (fun h165 => ?_)
              rotate_left
              · exact absurd h165 (by decide)
              refine pe_iconstv (n := 1) (v := 1) (by decide +kernel) (by decide +kernel) ?_
              refine pe_iret (by decide +kernel) rfl rfl ?_
              exact ⟨rfl, rfl, rfl⟩
            · skip
              refine pe_iload_n (j := 0) (by decide +kernel) rfl ?_
              refine pe_iload_n (j := 2) (by decide +kernel) rfl ?_
              refine pe_icmp_gt (off := 7) (t := 14) (by decide +kernel) (by decide) rfl (fun h166 => ?_) (fun h166 => ?_)
              · skip
                refine pe_iconstv (n := 0) (v := 0) (by decide +kernel) (by decide +kernel) ?_
                refine pe_iret (by decide +kernel) rfl rfl ?_
                show pmE pg _ pg_tyl pg_cl _ 272 7 _ _ _ _
                refine pe_if_eq (off := 33) (t := 40) (by decide +kernel) (by decide) rfl (fun h167 => ?_) (fun h167 => ?_)
                rotate_left
                · exact absurd h167 (by decide)
                refine pe_ldc2 (j := 309) (v := (-1)) (by decide +kernel) (by decide +kernel) ?_
                refine pe_lret (by decide +kernel) rfl ?_
                show pmE pg _ pg_tyl pg_cl _ 318 1085 _ _ _ _
                refine pe_lcmp (by decide +kernel) ?_
                refine pe_top (v := 0) (by decide +kernel) ?_
                refine pe_if_eq (off := 1391) (t := 2477) (by decide +kernel) (by decide) rfl (fun h168 => ?_) (fun h168 => ?_)
                rotate_left
                · exact absurd h168 (by decide)
                refine pe_iincv (j := 3) (n := 7) (v := 7) (ls' := [_, _, _, _]) (by decide +kernel) rfl (by decide +kernel) rfl ?_
                refine pe_goto (off := (-2462)) (t := 18) (by decide +kernel) (by decide) rfl ?_
                refine pe_iload_n (j := 3) (by decide +kernel) rfl ?_
                refine pe_aloadX_n (j := 0) (by decide +kernel) rfl ?_
                refine pe_alenXv (v := 7) (by decide +kernel) rfl (by decide) rfl ?_
                refine pe_bipushv (n := 7) (v := 7) (by decide +kernel) (by decide +kernel) ?_
                refine pe_isub (by decide +kernel) ?_
                refine pe_top (v := 0) (by decide +kernel) ?_
                refine pe_icmp_gt (off := 2459) (t := 2483) (by decide +kernel) (by decide) rfl (fun h169 => ?_) (fun h169 => ?_)
                rotate_left
                · exact absurd h169 (by decide)
                refine pe_iconstv (n := 1) (v := 1) (by decide +kernel) (by decide +kernel) ?_
                refine pe_iret (by decide +kernel) rfl rfl ?_
                exact ⟨rfl, rfl, rfl⟩
              · skip
                first | exact absurd rfl (by assumption) | (exfalso; simp only [Int32.lt_iff_toInt_lt, Int32.le_iff_toInt_le, ← Int32.toInt_inj, kl_m100000, kl_m3, kl_m2, kl_m1, kl_0, kl_1, kl_2, kl_3, kl_4, kl_5, kl_6, kl_7, kl_8, kl_9, kl_10, kl_11, kl_12, kl_13, kl_14, kl_15, kl_16, kl_17, kl_18, kl_19, kl_20, kl_21, kl_22, kl_23, kl_24, kl_25, kl_26, kl_27, kl_28, kl_29, kl_30, kl_99, kl_100, kl_600, kl_999] at *; omega)
        · skip
          refine pe_iconstv (n := 1) (v := 1) (by decide +kernel) (by decide +kernel) ?_
          refine pe_goto (off := 4) (t := 19) (by decide +kernel) (by decide) rfl ?_
          refine pe_iret (by decide +kernel) rfl rfl ?_
          show pmE pg _ pg_tyl pg_cl _ 131 5 _ _ _ _
          refine pe_if_eq (off := 28) (t := 33) (by decide +kernel) (by decide) rfl (fun h170 => ?_) (fun h170 => ?_)
          · exact absurd h170 (by decide)
          refine pe_aload_n (j := 0) (by decide +kernel) rfl ?_
          refine pe_iload_n (j := 1) (by decide +kernel) rfl ?_
          refine pe_iload_n (j := 2) (by decide +kernel) rfl ?_
          refine pe_iload_n (j := 3) (by decide +kernel) rfl ?_
          refine pe_callV (j := 201) (mj := 98) (by decide +kernel) rfl ?_
          refine pe_aload_n (j := 0) (by decide +kernel) rfl ?_
          refine pe_get (j := 12) (ci := 11) (n := 0) (by decide +kernel) (by decide +kernel) rfl rfl ?_
          refine pe_iload_n (j := 1) (by decide +kernel) rfl ?_
          refine pe_callV (j := 111) (mj := 60) (by decide +kernel) rfl ?_
          refine pe_iload_n (j := 1) (by decide +kernel) rfl ?_
          refine pe_if_lt (off := 20) (t := 21) (by decide +kernel) (by decide) rfl (fun h171 => ?_) (fun h171 => ?_)
          · skip
            refine pe_null (by decide +kernel) ?_
            refine pe_nret (by decide +kernel) rfl ?_
            show pmE pg _ pg_tyl pg_cl _ 98 8 _ _ _ _
            refine pe_astoreN (j := 4) (ls' := [_, _, _, _, _, _, _]) (by decide +kernel) (Nat.le_of_ble_eq_true rfl) rfl ?_
            refine pe_aloadN (j := 4) (by decide +kernel) rfl ?_
            refine pe_ifnonnullN (off := 5) (by decide +kernel) ?_
            refine pe_iconstv (n := 0) (v := 0) (by decide +kernel) (by decide +kernel) ?_
            refine pe_iret (by decide +kernel) rfl rfl ?_
            show pmE pg _ pg_tyl pg_cl _ 131 15 _ _ _ _
            refine pe_if_eq (off := 18) (t := 33) (by decide +kernel) (by decide) rfl (fun h172 => ?_) (fun h172 => ?_)
            rotate_left
            · exact absurd h172 (by decide)
            refine pe_iconstv (n := 0) (v := 0) (by decide +kernel) (by decide +kernel) ?_
            refine pe_iret (by decide +kernel) rfl rfl ?_
            show pmE pg _ pg_tyl pg_cl _ 139 11 _ _ _ _
            refine pe_if_ne (off := 7) (t := 18) (by decide +kernel) (by decide) rfl (fun h173 => ?_) (fun h173 => ?_)
            · exact absurd h173 (by decide)
            refine pe_ldc2 (j := 274) (v := (-1)) (by decide +kernel) (by decide +kernel) ?_
            refine pe_lret (by decide +kernel) rfl ?_
            show pmE pg _ pg_tyl pg_cl _ 318 1042 _ _ _ _
            refine pe_aload_n (j := 2) (by decide +kernel) rfl ?_
            refine pe_aloadX_n (j := 0) (by decide +kernel) rfl ?_
            refine pe_iload_n (j := 3) (by decide +kernel) rfl ?_
            refine pe_iconstv (n := 1) (v := 1) (by decide +kernel) (by decide +kernel) ?_
            refine pe_iadd (by decide +kernel) ?_
            refine pe_top (v := 1) (by decide +kernel) ?_
            refine pe_ialdXv (n := 7) (v := x1) (by decide +kernel) rfl rfl (by decide +kernel) rfl ?_
            refine pe_aloadX_n (j := 0) (by decide +kernel) rfl ?_
            refine pe_iload_n (j := 3) (by decide +kernel) rfl ?_
            refine pe_iconstv (n := 2) (v := 2) (by decide +kernel) (by decide +kernel) ?_
            refine pe_iadd (by decide +kernel) ?_
            refine pe_top (v := 2) (by decide +kernel) ?_
            refine pe_ialdXv (n := 7) (v := x2) (by decide +kernel) rfl rfl (by decide +kernel) rfl ?_
            refine pe_aloadX_n (j := 0) (by decide +kernel) rfl ?_
            refine pe_iload_n (j := 3) (by decide +kernel) rfl ?_
            refine pe_iconstv (n := 3) (v := 3) (by decide +kernel) (by decide +kernel) ?_
            refine pe_iadd (by decide +kernel) ?_
            refine pe_top (v := 3) (by decide +kernel) ?_
            refine pe_ialdXv (n := 7) (v := x3) (by decide +kernel) rfl rfl (by decide +kernel) rfl ?_
            refine pe_aloadX_n (j := 0) (by decide +kernel) rfl ?_
            refine pe_iload_n (j := 3) (by decide +kernel) rfl ?_
            refine pe_iconstv (n := 4) (v := 4) (by decide +kernel) (by decide +kernel) ?_
            refine pe_iadd (by decide +kernel) ?_
            refine pe_top (v := 4) (by decide +kernel) ?_
            refine pe_ialdXv (n := 7) (v := x4) (by decide +kernel) rfl rfl (by decide +kernel) rfl ?_
            refine pe_aloadX_n (j := 0) (by decide +kernel) rfl ?_
            refine pe_iload_n (j := 3) (by decide +kernel) rfl ?_
            refine pe_iconstv (n := 5) (v := 5) (by decide +kernel) (by decide +kernel) ?_
            refine pe_iadd (by decide +kernel) ?_
            refine pe_top (v := 5) (by decide +kernel) ?_
            refine pe_ialdXv (n := 7) (v := x5) (by decide +kernel) rfl rfl (by decide +kernel) rfl ?_
            refine pe_aloadX_n (j := 0) (by decide +kernel) rfl ?_
            refine pe_iload_n (j := 3) (by decide +kernel) rfl ?_
            refine pe_bipushv (n := 6) (v := 6) (by decide +kernel) (by decide +kernel) ?_
            refine pe_iadd (by decide +kernel) ?_
            refine pe_top (v := 6) (by decide +kernel) ?_
            refine pe_ialdXv (n := 7) (v := x6) (by decide +kernel) rfl rfl (by decide +kernel) rfl ?_
            refine pe_if_eq (off := 7) (t := 1081) (by decide +kernel) (by decide) rfl (fun h174 => ?_) (fun h174 => ?_)
            · skip
              first | exact absurd rfl (by assumption) | (exfalso; simp only [Int32.lt_iff_toInt_lt, Int32.le_iff_toInt_le, ← Int32.toInt_inj, kl_m100000, kl_m3, kl_m2, kl_m1, kl_0, kl_1, kl_2, kl_3, kl_4, kl_5, kl_6, kl_7, kl_8, kl_9, kl_10, kl_11, kl_12, kl_13, kl_14, kl_15, kl_16, kl_17, kl_18, kl_19, kl_20, kl_21, kl_22, kl_23, kl_24, kl_25, kl_26, kl_27, kl_28, kl_29, kl_30, kl_99, kl_100, kl_600, kl_999] at *; omega)
            · skip
              refine pe_iconstv (n := 1) (v := 1) (by decide +kernel) (by decide +kernel) ?_
              refine pe_goto (off := 4) (t := 1082) (by decide +kernel) (by decide) rfl ?_
              refine pe_callV (j := 92) (mj := 272) (by decide +kernel) rfl ?_
              refine pe_iload (j := 5) (by decide +kernel) rfl ?_
              refine pe_iconstv (n := 0) (v := 0) (by decide +kernel) (by decide +kernel) ?_
              refine pe_iconstv (n := 2) (v := 2) (by decide +kernel) (by decide +kernel) ?_
              refine pe_callS (j := 119) (mj := 199) (by decide +kernel) (by decide +kernel) rfl ?_
              refine pe_iload_n (j := 0) (by decide +kernel) rfl ?_
              refine pe_iload_n (j := 1) (by decide +kernel) rfl ?_
              refine pe_icmp_lt (off := 12) (t := 14) (by decide +kernel) (by decide) rfl (fun h175 => ?_) (fun h175 => ?_)
              · skip
                first | exact absurd rfl (by assumption) | (exfalso; simp only [Int32.lt_iff_toInt_lt, Int32.le_iff_toInt_le, ← Int32.toInt_inj, kl_m100000, kl_m3, kl_m2, kl_m1, kl_0, kl_1, kl_2, kl_3, kl_4, kl_5, kl_6, kl_7, kl_8, kl_9, kl_10, kl_11, kl_12, kl_13, kl_14, kl_15, kl_16, kl_17, kl_18, kl_19, kl_20, kl_21, kl_22, kl_23, kl_24, kl_25, kl_26, kl_27, kl_28, kl_29, kl_30, kl_99, kl_100, kl_600, kl_999] at *; omega)
              · skip
                refine pe_iload_n (j := 0) (by decide +kernel) rfl ?_
                refine pe_iload_n (j := 2) (by decide +kernel) rfl ?_
                refine pe_icmp_gt (off := 7) (t := 14) (by decide +kernel) (by decide) rfl (fun h176 => ?_) (fun h176 => ?_)
                · skip
                  first | exact absurd rfl (by assumption) | (exfalso; simp only [Int32.lt_iff_toInt_lt, Int32.le_iff_toInt_le, ← Int32.toInt_inj, kl_m100000, kl_m3, kl_m2, kl_m1, kl_0, kl_1, kl_2, kl_3, kl_4, kl_5, kl_6, kl_7, kl_8, kl_9, kl_10, kl_11, kl_12, kl_13, kl_14, kl_15, kl_16, kl_17, kl_18, kl_19, kl_20, kl_21, kl_22, kl_23, kl_24, kl_25, kl_26, kl_27, kl_28, kl_29, kl_30, kl_99, kl_100, kl_600, kl_999] at *; omega)
                · skip
                  refine pe_iconstv (n := 1) (v := 1) (by decide +kernel) (by decide +kernel) ?_
                  refine pe_goto (off := 4) (t := 15) (by decide +kernel) (by decide) rfl ?_
                  refine pe_iret (by decide +kernel) rfl rfl ?_
                  show pmE pg _ pg_tyl pg_cl _ 272 7 _ _ _ _
                  refine pe_if_eq (off := 33) (t := 40) (by decide +kernel) (by decide) rfl (fun h177 => ?_) (fun h177 => ?_)
                  · exact absurd h177 (by decide)
                  refine pe_aload_n (j := 0) (by decide +kernel) rfl ?_
                  refine pe_iload_n (j := 1) (by decide +kernel) rfl ?_
                  refine pe_iload_n (j := 2) (by decide +kernel) rfl ?_
                  refine pe_iload_n (j := 3) (by decide +kernel) rfl ?_
                  refine pe_iload (j := 4) (by decide +kernel) rfl ?_
                  refine pe_callV (j := 303) (mj := 265) (by decide +kernel) rfl ?_
                  refine pe_aload_n (j := 0) (by decide +kernel) rfl ?_
                  refine pe_iload_n (j := 1) (by decide +kernel) rfl ?_
                  refine pe_iload_n (j := 2) (by decide +kernel) rfl ?_
                  refine pe_iload_n (j := 3) (by decide +kernel) rfl ?_
                  refine pe_callV (j := 232) (mj := 246) (by decide +kernel) rfl ?_
                  refine pe_aload_n (j := 0) (by decide +kernel) rfl ?_
                  refine pe_iconstv (n := 0) (v := 0) (by decide +kernel) (by decide +kernel) ?_
                  refine pe_iload_n (j := 1) (by decide +kernel) rfl ?_
                  refine pe_callV (j := 153) (mj := 200) (by decide +kernel) rfl ?_
                  refine pe_iload_n (j := 2) (by decide +kernel) rfl ?_
                  refine pe_iconstv (n := 0) (v := 0) (by decide +kernel) (by decide +kernel) ?_
                  refine pe_aload_n (j := 0) (by decide +kernel) rfl ?_
                  refine pe_get (j := 7) (ci := 12) (n := 0) (by decide +kernel) (by decide +kernel) rfl rfl ?_
                  refine pe_iload_n (j := 1) (by decide +kernel) rfl ?_
                  refine pe_ialdv (n := 6760) (v := 0) (by decide +kernel) rfl rfl (by decide +kernel) rfl ?_
                  refine pe_iconstv (n := 1) (v := 1) (by decide +kernel) (by decide +kernel) ?_
                  refine pe_isub (by decide +kernel) ?_
                  refine pe_top (v := (-1)) (by decide +kernel) ?_
                  refine pe_callS (j := 119) (mj := 199) (by decide +kernel) (by decide +kernel) rfl ?_
                  refine pe_iload_n (j := 0) (by decide +kernel) rfl ?_
                  refine pe_iload_n (j := 1) (by decide +kernel) rfl ?_
                  refine pe_icmp_lt (off := 12) (t := 14) (by decide +kernel) (by decide) rfl (fun h178 => ?_) (fun h178 => ?_)
                  · skip
                    refine pe_iconstv (n := 0) (v := 0) (by decide +kernel) (by decide +kernel) ?_
                    refine pe_iret (by decide +kernel) rfl rfl ?_
                    show pmE pg _ pg_tyl pg_cl _ 200 13 _ _ _ _
                    refine pe_iret (by decide +kernel) rfl rfl ?_
                    show pmE pg _ pg_tyl pg_cl _ 246 6 _ _ _ _
                    refine pe_if_eq (off := 21) (t := 27) (by decide +kernel) (by decide) rfl (fun h179 => ?_) (fun h179 => ?_)
                    rotate_left
                    · exact absurd h179 (by decide)
                    refine pe_iconstv (n := 0) (v := 0) (by decide +kernel) (by decide +kernel) ?_
                    refine pe_iret (by decide +kernel) rfl rfl ?_
                    show pmE pg _ pg_tyl pg_cl _ 265 7 _ _ _ _
                    refine pe_if_eq (off := 21) (t := 28) (by decide +kernel) (by decide) rfl (fun h180 => ?_) (fun h180 => ?_)
                    rotate_left
                    · exact absurd h180 (by decide)
                    refine pe_iconstv (n := 0) (v := 0) (by decide +kernel) (by decide +kernel) ?_
                    refine pe_iret (by decide +kernel) rfl rfl ?_
                    show pmE pg _ pg_tyl pg_cl _ 272 19 _ _ _ _
                    refine pe_if_eq (off := 21) (t := 40) (by decide +kernel) (by decide) rfl (fun h181 => ?_) (fun h181 => ?_)
                    rotate_left
                    · exact absurd h181 (by decide)
                    refine pe_ldc2 (j := 309) (v := (-1)) (by decide +kernel) (by decide +kernel) ?_
                    refine pe_lret (by decide +kernel) rfl ?_
                    show pmE pg _ pg_tyl pg_cl _ 318 1085 _ _ _ _
                    refine pe_lcmp (by decide +kernel) ?_
                    refine pe_top (v := 0) (by decide +kernel) ?_
                    refine pe_if_eq (off := 1391) (t := 2477) (by decide +kernel) (by decide) rfl (fun h182 => ?_) (fun h182 => ?_)
                    rotate_left
                    · exact absurd h182 (by decide)
                    refine pe_iincv (j := 3) (n := 7) (v := 7) (ls' := [_, _, _, _]) (by decide +kernel) rfl (by decide +kernel) rfl ?_
                    refine pe_goto (off := (-2462)) (t := 18) (by decide +kernel) (by decide) rfl ?_
                    refine pe_iload_n (j := 3) (by decide +kernel) rfl ?_
                    refine pe_aloadX_n (j := 0) (by decide +kernel) rfl ?_
                    refine pe_alenXv (v := 7) (by decide +kernel) rfl (by decide) rfl ?_
                    refine pe_bipushv (n := 7) (v := 7) (by decide +kernel) (by decide +kernel) ?_
                    refine pe_isub (by decide +kernel) ?_
                    refine pe_top (v := 0) (by decide +kernel) ?_
                    refine pe_icmp_gt (off := 2459) (t := 2483) (by decide +kernel) (by decide) rfl (fun h183 => ?_) (fun h183 => ?_)
                    rotate_left
                    · exact absurd h183 (by decide)
                    refine pe_iconstv (n := 1) (v := 1) (by decide +kernel) (by decide +kernel) ?_
                    refine pe_iret (by decide +kernel) rfl rfl ?_
                    exact ⟨rfl, rfl, rfl⟩
                  · skip
                    first | exact absurd rfl (by assumption) | (exfalso; simp only [Int32.lt_iff_toInt_lt, Int32.le_iff_toInt_le, ← Int32.toInt_inj, kl_m100000, kl_m3, kl_m2, kl_m1, kl_0, kl_1, kl_2, kl_3, kl_4, kl_5, kl_6, kl_7, kl_8, kl_9, kl_10, kl_11, kl_12, kl_13, kl_14, kl_15, kl_16, kl_17, kl_18, kl_19, kl_20, kl_21, kl_22, kl_23, kl_24, kl_25, kl_26, kl_27, kl_28, kl_29, kl_30, kl_99, kl_100, kl_600, kl_999] at *; omega)
          · skip
            refine pe_iload_n (j := 1) (by decide +kernel) rfl ?_
            refine pe_aload_n (j := 0) (by decide +kernel) rfl ?_
            refine pe_get (j := 33) (ci := 8) (n := 2) (by decide +kernel) (by decide +kernel) rfl rfl ?_
            refine pe_icmp_ge (off := 12) (t := 21) (by decide +kernel) (by decide) rfl (fun h184 => ?_) (fun h184 => ?_)
            · skip
              refine pe_null (by decide +kernel) ?_
              refine pe_nret (by decide +kernel) rfl ?_
              show pmE pg _ pg_tyl pg_cl _ 98 8 _ _ _ _
              refine pe_astoreN (j := 4) (ls' := [_, _, _, _, _, _, _]) (by decide +kernel) (Nat.le_of_ble_eq_true rfl) rfl ?_
              refine pe_aloadN (j := 4) (by decide +kernel) rfl ?_
              refine pe_ifnonnullN (off := 5) (by decide +kernel) ?_
              refine pe_iconstv (n := 0) (v := 0) (by decide +kernel) (by decide +kernel) ?_
              refine pe_iret (by decide +kernel) rfl rfl ?_
              show pmE pg _ pg_tyl pg_cl _ 131 15 _ _ _ _
              refine pe_if_eq (off := 18) (t := 33) (by decide +kernel) (by decide) rfl (fun h185 => ?_) (fun h185 => ?_)
              rotate_left
              · exact absurd h185 (by decide)
              refine pe_iconstv (n := 0) (v := 0) (by decide +kernel) (by decide +kernel) ?_
              refine pe_iret (by decide +kernel) rfl rfl ?_
              show pmE pg _ pg_tyl pg_cl _ 139 11 _ _ _ _
              refine pe_if_ne (off := 7) (t := 18) (by decide +kernel) (by decide) rfl (fun h186 => ?_) (fun h186 => ?_)
              · exact absurd h186 (by decide)
              refine pe_ldc2 (j := 274) (v := (-1)) (by decide +kernel) (by decide +kernel) ?_
              refine pe_lret (by decide +kernel) rfl ?_
              show pmE pg _ pg_tyl pg_cl _ 318 1042 _ _ _ _
              refine pe_aload_n (j := 2) (by decide +kernel) rfl ?_
              refine pe_aloadX_n (j := 0) (by decide +kernel) rfl ?_
              refine pe_iload_n (j := 3) (by decide +kernel) rfl ?_
              refine pe_iconstv (n := 1) (v := 1) (by decide +kernel) (by decide +kernel) ?_
              refine pe_iadd (by decide +kernel) ?_
              refine pe_top (v := 1) (by decide +kernel) ?_
              refine pe_ialdXv (n := 7) (v := x1) (by decide +kernel) rfl rfl (by decide +kernel) rfl ?_
              refine pe_aloadX_n (j := 0) (by decide +kernel) rfl ?_
              refine pe_iload_n (j := 3) (by decide +kernel) rfl ?_
              refine pe_iconstv (n := 2) (v := 2) (by decide +kernel) (by decide +kernel) ?_
              refine pe_iadd (by decide +kernel) ?_
              refine pe_top (v := 2) (by decide +kernel) ?_
              refine pe_ialdXv (n := 7) (v := x2) (by decide +kernel) rfl rfl (by decide +kernel) rfl ?_
              refine pe_aloadX_n (j := 0) (by decide +kernel) rfl ?_
              refine pe_iload_n (j := 3) (by decide +kernel) rfl ?_
              refine pe_iconstv (n := 3) (v := 3) (by decide +kernel) (by decide +kernel) ?_
              refine pe_iadd (by decide +kernel) ?_
              refine pe_top (v := 3) (by decide +kernel) ?_
              refine pe_ialdXv (n := 7) (v := x3) (by decide +kernel) rfl rfl (by decide +kernel) rfl ?_
              refine pe_aloadX_n (j := 0) (by decide +kernel) rfl ?_
              refine pe_iload_n (j := 3) (by decide +kernel) rfl ?_
              refine pe_iconstv (n := 4) (v := 4) (by decide +kernel) (by decide +kernel) ?_
              refine pe_iadd (by decide +kernel) ?_
              refine pe_top (v := 4) (by decide +kernel) ?_
              refine pe_ialdXv (n := 7) (v := x4) (by decide +kernel) rfl rfl (by decide +kernel) rfl ?_
              refine pe_aloadX_n (j := 0) (by decide +kernel) rfl ?_
              refine pe_iload_n (j := 3) (by decide +kernel) rfl ?_
              refine pe_iconstv (n := 5) (v := 5) (by decide +kernel) (by decide +kernel) ?_
              refine pe_iadd (by decide +kernel) ?_
              refine pe_top (v := 5) (by decide +kernel) ?_
              refine pe_ialdXv (n := 7) (v := x5) (by decide +kernel) rfl rfl (by decide +kernel) rfl ?_
              refine pe_aloadX_n (j := 0) (by decide +kernel) rfl ?_
              refine pe_iload_n (j := 3) (by decide +kernel) rfl ?_
              refine pe_bipushv (n := 6) (v := 6) (by decide +kernel) (by decide +kernel) ?_
              refine pe_iadd (by decide +kernel) ?_
              refine pe_top (v := 6) (by decide +kernel) ?_
              refine pe_ialdXv (n := 7) (v := x6) (by decide +kernel) rfl rfl (by decide +kernel) rfl ?_
              refine pe_if_eq (off := 7) (t := 1081) (by decide +kernel) (by decide) rfl (fun h187 => ?_) (fun h187 => ?_)
              · skip
                first | exact absurd rfl (by assumption) | (exfalso; simp only [Int32.lt_iff_toInt_lt, Int32.le_iff_toInt_le, ← Int32.toInt_inj, kl_m100000, kl_m3, kl_m2, kl_m1, kl_0, kl_1, kl_2, kl_3, kl_4, kl_5, kl_6, kl_7, kl_8, kl_9, kl_10, kl_11, kl_12, kl_13, kl_14, kl_15, kl_16, kl_17, kl_18, kl_19, kl_20, kl_21, kl_22, kl_23, kl_24, kl_25, kl_26, kl_27, kl_28, kl_29, kl_30, kl_99, kl_100, kl_600, kl_999] at *; omega)
              · skip
                refine pe_iconstv (n := 1) (v := 1) (by decide +kernel) (by decide +kernel) ?_
                refine pe_goto (off := 4) (t := 1082) (by decide +kernel) (by decide) rfl ?_
                refine pe_callV (j := 92) (mj := 272) (by decide +kernel) rfl ?_
                refine pe_iload (j := 5) (by decide +kernel) rfl ?_
                refine pe_iconstv (n := 0) (v := 0) (by decide +kernel) (by decide +kernel) ?_
                refine pe_iconstv (n := 2) (v := 2) (by decide +kernel) (by decide +kernel) ?_
                refine pe_callS (j := 119) (mj := 199) (by decide +kernel) (by decide +kernel) rfl ?_
                refine pe_iload_n (j := 0) (by decide +kernel) rfl ?_
                refine pe_iload_n (j := 1) (by decide +kernel) rfl ?_
                refine pe_icmp_lt (off := 12) (t := 14) (by decide +kernel) (by decide) rfl (fun h188 => ?_) (fun h188 => ?_)
                · skip
                  first | exact absurd rfl (by assumption) | (exfalso; simp only [Int32.lt_iff_toInt_lt, Int32.le_iff_toInt_le, ← Int32.toInt_inj, kl_m100000, kl_m3, kl_m2, kl_m1, kl_0, kl_1, kl_2, kl_3, kl_4, kl_5, kl_6, kl_7, kl_8, kl_9, kl_10, kl_11, kl_12, kl_13, kl_14, kl_15, kl_16, kl_17, kl_18, kl_19, kl_20, kl_21, kl_22, kl_23, kl_24, kl_25, kl_26, kl_27, kl_28, kl_29, kl_30, kl_99, kl_100, kl_600, kl_999] at *; omega)
                · skip
                  refine pe_iload_n (j := 0) (by decide +kernel) rfl ?_
                  refine pe_iload_n (j := 2) (by decide +kernel) rfl ?_
                  refine pe_icmp_gt (off := 7) (t := 14) (by decide +kernel) (by decide) rfl (fun h189 => ?_) (fun h189 => ?_)
                  · skip
                    first | exact absurd rfl (by assumption) | (exfalso; simp only [Int32.lt_iff_toInt_lt, Int32.le_iff_toInt_le, ← Int32.toInt_inj, kl_m100000, kl_m3, kl_m2, kl_m1, kl_0, kl_1, kl_2, kl_3, kl_4, kl_5, kl_6, kl_7, kl_8, kl_9, kl_10, kl_11, kl_12, kl_13, kl_14, kl_15, kl_16, kl_17, kl_18, kl_19, kl_20, kl_21, kl_22, kl_23, kl_24, kl_25, kl_26, kl_27, kl_28, kl_29, kl_30, kl_99, kl_100, kl_600, kl_999] at *; omega)
                  · skip
                    refine pe_iconstv (n := 1) (v := 1) (by decide +kernel) (by decide +kernel) ?_
                    refine pe_goto (off := 4) (t := 15) (by decide +kernel) (by decide) rfl ?_
                    refine pe_iret (by decide +kernel) rfl rfl ?_
                    show pmE pg _ pg_tyl pg_cl _ 272 7 _ _ _ _
                    refine pe_if_eq (off := 33) (t := 40) (by decide +kernel) (by decide) rfl (fun h190 => ?_) (fun h190 => ?_)
                    · exact absurd h190 (by decide)
                    refine pe_aload_n (j := 0) (by decide +kernel) rfl ?_
                    refine pe_iload_n (j := 1) (by decide +kernel) rfl ?_
                    refine pe_iload_n (j := 2) (by decide +kernel) rfl ?_
                    refine pe_iload_n (j := 3) (by decide +kernel) rfl ?_
                    refine pe_iload (j := 4) (by decide +kernel) rfl ?_
                    refine pe_callV (j := 303) (mj := 265) (by decide +kernel) rfl ?_
                    refine pe_aload_n (j := 0) (by decide +kernel) rfl ?_
                    refine pe_iload_n (j := 1) (by decide +kernel) rfl ?_
                    refine pe_iload_n (j := 2) (by decide +kernel) rfl ?_
                    refine pe_iload_n (j := 3) (by decide +kernel) rfl ?_
                    refine pe_callV (j := 232) (mj := 246) (by decide +kernel) rfl ?_
                    refine pe_aload_n (j := 0) (by decide +kernel) rfl ?_
                    refine pe_iconstv (n := 0) (v := 0) (by decide +kernel) (by decide +kernel) ?_
                    refine pe_iload_n (j := 1) (by decide +kernel) rfl ?_
                    refine pe_callV (j := 153) (mj := 200) (by decide +kernel) rfl ?_
                    refine pe_iload_n (j := 2) (by decide +kernel) rfl ?_
                    refine pe_iconstv (n := 0) (v := 0) (by decide +kernel) (by decide +kernel) ?_
                    refine pe_aload_n (j := 0) (by decide +kernel) rfl ?_
                    refine pe_get (j := 7) (ci := 12) (n := 0) (by decide +kernel) (by decide +kernel) rfl rfl ?_
                    refine pe_iload_n (j := 1) (by decide +kernel) rfl ?_
                    refine pe_ialdv (n := 6760) (v := 0) (by decide +kernel) rfl rfl (by decide +kernel) rfl ?_
                    refine pe_iconstv (n := 1) (v := 1) (by decide +kernel) (by decide +kernel) ?_
                    refine pe_isub (by decide +kernel) ?_
                    refine pe_top (v := (-1)) (by decide +kernel) ?_
                    refine pe_callS (j := 119) (mj := 199) (by decide +kernel) (by decide +kernel) rfl ?_
                    refine pe_iload_n (j := 0) (by decide +kernel) rfl ?_
                    refine pe_iload_n (j := 1) (by decide +kernel) rfl ?_
                    refine pe_icmp_lt (off := 12) (t := 14) (by decide +kernel) (by decide) rfl (fun h191 => ?_) (fun h191 => ?_)
                    · skip
                      first | exact absurd rfl (by assumption) | (exfalso; simp only [Int32.lt_iff_toInt_lt, Int32.le_iff_toInt_le, ← Int32.toInt_inj, kl_m100000, kl_m3, kl_m2, kl_m1, kl_0, kl_1, kl_2, kl_3, kl_4, kl_5, kl_6, kl_7, kl_8, kl_9, kl_10, kl_11, kl_12, kl_13, kl_14, kl_15, kl_16, kl_17, kl_18, kl_19, kl_20, kl_21, kl_22, kl_23, kl_24, kl_25, kl_26, kl_27, kl_28, kl_29, kl_30, kl_99, kl_100, kl_600, kl_999] at *; omega)
                    · skip
                      refine pe_iload_n (j := 0) (by decide +kernel) rfl ?_
                      refine pe_iload_n (j := 2) (by decide +kernel) rfl ?_
                      refine pe_icmp_gt (off := 7) (t := 14) (by decide +kernel) (by decide) rfl (fun h192 => ?_) (fun h192 => ?_)
                      · skip
                        refine pe_iconstv (n := 0) (v := 0) (by decide +kernel) (by decide +kernel) ?_
                        refine pe_iret (by decide +kernel) rfl rfl ?_
                        show pmE pg _ pg_tyl pg_cl _ 200 13 _ _ _ _
                        refine pe_iret (by decide +kernel) rfl rfl ?_
                        show pmE pg _ pg_tyl pg_cl _ 246 6 _ _ _ _
                        refine pe_if_eq (off := 21) (t := 27) (by decide +kernel) (by decide) rfl (fun h193 => ?_) (fun h193 => ?_)
                        rotate_left
                        · exact absurd h193 (by decide)
                        refine pe_iconstv (n := 0) (v := 0) (by decide +kernel) (by decide +kernel) ?_
                        refine pe_iret (by decide +kernel) rfl rfl ?_
                        show pmE pg _ pg_tyl pg_cl _ 265 7 _ _ _ _
                        refine pe_if_eq (off := 21) (t := 28) (by decide +kernel) (by decide) rfl (fun h194 => ?_) (fun h194 => ?_)
                        rotate_left
                        · exact absurd h194 (by decide)
                        refine pe_iconstv (n := 0) (v := 0) (by decide +kernel) (by decide +kernel) ?_
                        refine pe_iret (by decide +kernel) rfl rfl ?_
                        show pmE pg _ pg_tyl pg_cl _ 272 19 _ _ _ _
                        refine pe_if_eq (off := 21) (t := 40) (by decide +kernel) (by decide) rfl (fun h195 => ?_) (fun h195 => ?_)
                        rotate_left
                        · exact absurd h195 (by decide)
                        refine pe_ldc2 (j := 309) (v := (-1)) (by decide +kernel) (by decide +kernel) ?_
                        refine pe_lret (by decide +kernel) rfl ?_
                        show pmE pg _ pg_tyl pg_cl _ 318 1085 _ _ _ _
                        refine pe_lcmp (by decide +kernel) ?_
                        refine pe_top (v := 0) (by decide +kernel) ?_
                        refine pe_if_eq (off := 1391) (t := 2477) (by decide +kernel) (by decide) rfl (fun h196 => ?_) (fun h196 => ?_)
                        rotate_left
                        · exact absurd h196 (by decide)
                        refine pe_iincv (j := 3) (n := 7) (v := 7) (ls' := [_, _, _, _]) (by decide +kernel) rfl (by decide +kernel) rfl ?_
                        refine pe_goto (off := (-2462)) (t := 18) (by decide +kernel) (by decide) rfl ?_
                        refine pe_iload_n (j := 3) (by decide +kernel) rfl ?_
                        refine pe_aloadX_n (j := 0) (by decide +kernel) rfl ?_
                        refine pe_alenXv (v := 7) (by decide +kernel) rfl (by decide) rfl ?_
                        refine pe_bipushv (n := 7) (v := 7) (by decide +kernel) (by decide +kernel) ?_
                        refine pe_isub (by decide +kernel) ?_
                        refine pe_top (v := 0) (by decide +kernel) ?_
                        refine pe_icmp_gt (off := 2459) (t := 2483) (by decide +kernel) (by decide) rfl (fun h197 => ?_) (fun h197 => ?_)
                        rotate_left
                        · exact absurd h197 (by decide)
                        refine pe_iconstv (n := 1) (v := 1) (by decide +kernel) (by decide +kernel) ?_
                        refine pe_iret (by decide +kernel) rfl rfl ?_
                        exact ⟨rfl, rfl, rfl⟩
                      · skip
                        first | exact absurd rfl (by assumption) | (exfalso; simp only [Int32.lt_iff_toInt_lt, Int32.le_iff_toInt_le, ← Int32.toInt_inj, kl_m100000, kl_m3, kl_m2, kl_m1, kl_0, kl_1, kl_2, kl_3, kl_4, kl_5, kl_6, kl_7, kl_8, kl_9, kl_10, kl_11, kl_12, kl_13, kl_14, kl_15, kl_16, kl_17, kl_18, kl_19, kl_20, kl_21, kl_22, kl_23, kl_24, kl_25, kl_26, kl_27, kl_28, kl_29, kl_30, kl_99, kl_100, kl_600, kl_999] at *; omega)
            · skip
              first | exact absurd rfl (by assumption) | (exfalso; simp only [Int32.lt_iff_toInt_lt, Int32.le_iff_toInt_le, ← Int32.toInt_inj, kl_m100000, kl_m3, kl_m2, kl_m1, kl_0, kl_1, kl_2, kl_3, kl_4, kl_5, kl_6, kl_7, kl_8, kl_9, kl_10, kl_11, kl_12, kl_13, kl_14, kl_15, kl_16, kl_17, kl_18, kl_19, kl_20, kl_21, kl_22, kl_23, kl_24, kl_25, kl_26, kl_27, kl_28, kl_29, kl_30, kl_99, kl_100, kl_600, kl_999] at *; omega)
