set_option maxRecDepth 1000000 in
set_option maxHeartbeats 4000000 in
theorem p1_c2 (x0 x1 x2 x3 x4 x5 x6 : Int32) : pmE pg (pg_X [x0, x1, x2, x3, x4, x5, x6]) pg_tyl pg_cl 41 318 302 [.retAddr 0, .ref 0, .ref 147, .int 0] [] fw_0 (fun q => q.1 = some (.int 1) ∧ q.2.2.1 = 0 ∧ q.2.2.2 = 0) := by
  by_cases e0 : x1 = 0
  · subst e0
    by_cases f0 : x2 = (-1)
    · subst f0
      obtain ⟨w1, h1, g1⟩ := pe_on1_of (f := 60000) (d := 40) (m1 := 16) (v := 0) (l1 := pm_ent 5 [.ref 0, .int 0, .int (-1)]) (by decide +kernel)
      refine pe_aload_n (j := 1) (by decide +kernel) rfl ?_
      refine pe_aloadX_n (j := 0) (by decide +kernel) rfl ?_
      refine pe_iload_n (j := 3) (by decide +kernel) rfl ?_
      refine pe_iconstv (n := 1) (v := 1) (by decide +kernel) (by decide +kernel) ?_
      refine pe_iadd (by decide +kernel) ?_
      refine pe_top (v := 1) (by decide +kernel) ?_
      refine pe_ialdXv (n := 7) (v := 0) (by decide +kernel) rfl rfl (by decide +kernel) rfl ?_
      refine pe_aloadX_n (j := 0) (by decide +kernel) rfl ?_
      refine pe_iload_n (j := 3) (by decide +kernel) rfl ?_
      refine pe_iconstv (n := 2) (v := 2) (by decide +kernel) (by decide +kernel) ?_
      refine pe_iadd (by decide +kernel) ?_
      refine pe_top (v := 2) (by decide +kernel) ?_
      refine pe_ialdXv (n := 7) (v := (-1)) (by decide +kernel) rfl rfl (by decide +kernel) rfl ?_
      refine pe_callV (j := 23) (mj := 16) (by decide +kernel) rfl (pmE.of (h1 _) ?_)
      show pmE pg _ pg_tyl pg_cl _ 318 316 _ _ _ _
      refine pe_aload_n (j := 2) (by decide +kernel) rfl ?_
      refine pe_aloadX_n (j := 0) (by decide +kernel) rfl ?_
      refine pe_iload_n (j := 3) (by decide +kernel) rfl ?_
      refine pe_iconstv (n := 1) (v := 1) (by decide +kernel) (by decide +kernel) ?_
      refine pe_iadd (by decide +kernel) ?_
      refine pe_top (v := 1) (by decide +kernel) ?_
      refine pe_ialdXv (n := 7) (v := 0) (by decide +kernel) rfl rfl (by decide +kernel) rfl ?_
      refine pe_aloadX_n (j := 0) (by decide +kernel) rfl ?_
      refine pe_iload_n (j := 3) (by decide +kernel) rfl ?_
      refine pe_iconstv (n := 2) (v := 2) (by decide +kernel) (by decide +kernel) ?_
      refine pe_iadd (by decide +kernel) ?_
      refine pe_top (v := 2) (by decide +kernel) ?_
      refine pe_ialdXv (n := 7) (v := (-1)) (by decide +kernel) rfl rfl (by decide +kernel) rfl ?_
      refine pe_callV (j := 27) (mj := 198) (d' := 40) (vs := [.ref 147, .int 0, .int (-1)]) (st' := [.int 0]) (by decide +kernel) (cll_V (args := [.int (-1), .int 0]) (n := 2) (by decide +kernel) rfl rfl (tx_on g1).1 (by decide +kernel) (Nat.le_of_ble_eq_true rfl) (Nat.le_of_ble_eq_true rfl)) (tx_s0 (d := 38) (tx_on g1) (fun w2 => ?_))
      show pmE pg _ pg_tyl pg_cl _ 318 330 _ _ _ _
      refine pe_icmp_eq (off := 2147) (t := 2477) (by decide +kernel) (by decide) rfl (fun h18 => ?_) (fun h18 => ?_)
      · skip
        refine pe_iincv (j := 3) (n := 7) (v := 7) (ls' := [_, _, _, _]) (by decide +kernel) rfl (by decide +kernel) rfl ?_
        refine pe_goto (off := (-2462)) (t := 18) (by decide +kernel) (by decide) rfl ?_
        refine pe_iload_n (j := 3) (by decide +kernel) rfl ?_
        refine pe_aloadX_n (j := 0) (by decide +kernel) rfl ?_
        refine pe_alenXv (v := 7) (by decide +kernel) rfl (by decide) rfl ?_
        refine pe_bipushv (n := 7) (v := 7) (by decide +kernel) (by decide +kernel) ?_
        refine pe_isub (by decide +kernel) ?_
        refine pe_top (v := 0) (by decide +kernel) ?_
        refine pe_icmp_gt (off := 2459) (t := 2483) (by decide +kernel) (by decide) rfl (fun h19 => ?_) (fun h19 => ?_)
        rotate_left
        · exact absurd h19 (by decide)
        refine pe_iconstv (n := 1) (v := 1) (by decide +kernel) (by decide +kernel) ?_
        refine pe_iret (by decide +kernel) rfl rfl ?_
        exact ⟨rfl, rfl, rfl⟩
      · skip
        first | exact absurd rfl (by assumption) | (exfalso; simp only [Int32.lt_iff_toInt_lt, Int32.le_iff_toInt_le, ← Int32.toInt_inj, kl_m100000, kl_m3, kl_m2, kl_m1, kl_0, kl_1, kl_2, kl_3, kl_4, kl_5, kl_6, kl_7, kl_8, kl_9, kl_10, kl_11, kl_12, kl_13, kl_14, kl_15, kl_16, kl_17, kl_18, kl_19, kl_20, kl_21, kl_22, kl_23, kl_24, kl_25, kl_26, kl_27, kl_28, kl_29, kl_30, kl_99, kl_100, kl_600, kl_999] at *; omega)
    · skip
      refine pe_aload_n (j := 1) (by decide +kernel) rfl ?_
      refine pe_aloadX_n (j := 0) (by decide +kernel) rfl ?_
      refine pe_iload_n (j := 3) (by decide +kernel) rfl ?_
      refine pe_iconstv (n := 1) (v := 1) (by decide +kernel) (by decide +kernel) ?_
      refine pe_iadd (by decide +kernel) ?_
      refine pe_top (v := 1) (by decide +kernel) ?_
      refine pe_ialdXv (n := 7) (v := 0) (by decide +kernel) rfl rfl (by decide +kernel) rfl ?_
      refine pe_aloadX_n (j := 0) (by decide +kernel) rfl ?_
      refine pe_iload_n (j := 3) (by decide +kernel) rfl ?_
      refine pe_iconstv (n := 2) (v := 2) (by decide +kernel) (by decide +kernel) ?_
      refine pe_iadd (by decide +kernel) ?_
      refine pe_top (v := 2) (by decide +kernel) ?_
      refine pe_ialdXv (n := 7) (v := x2) (by decide +kernel) rfl rfl (by decide +kernel) rfl ?_
      refine pe_callV (j := 23) (mj := 16) (by decide +kernel) rfl ?_
      refine pe_aload_n (j := 0) (by decide +kernel) rfl ?_
      refine pe_get (j := 12) (ci := 11) (n := 0) (by decide +kernel) (by decide +kernel) rfl rfl ?_
      refine pe_get (j := 77) (ci := 8) (n := 5) (by decide +kernel) (by decide +kernel) rfl rfl ?_
      refine pe_istore_n (j := 3) (ls' := [_, _, _, _, _]) (by decide +kernel) (Nat.le_of_ble_eq_true rfl) rfl ?_
      refine pe_aload_n (j := 0) (by decide +kernel) rfl ?_
      refine pe_get (j := 12) (ci := 11) (n := 0) (by decide +kernel) (by decide +kernel) rfl rfl ?_
      refine pe_iconstv (n := 0) (v := 0) (by decide +kernel) (by decide +kernel) ?_
      refine pe_put (j := 77) (ci := 8) (n := 5) (ty := .int) (by decide +kernel) (by decide +kernel) rfl (by decide) (pm_fit_int _) rfl ?_
      refine pe_aload_n (j := 0) (by decide +kernel) rfl ?_
      refine pe_get (j := 12) (ci := 11) (n := 0) (by decide +kernel) (by decide +kernel) rfl rfl ?_
      refine pe_iconstv (n := 0) (v := 0) (by decide +kernel) (by decide +kernel) ?_
      refine pe_put (j := 85) (ci := 8) (n := 6) (ty := .int) (by decide +kernel) (by decide +kernel) rfl (by decide) (pm_fit_int _) rfl ?_
      refine pe_aload_n (j := 0) (by decide +kernel) rfl ?_
      refine pe_get (j := 12) (ci := 11) (n := 0) (by decide +kernel) (by decide +kernel) rfl rfl ?_
      refine pe_iconstv (n := (-1)) (v := (-1)) (by decide +kernel) (by decide +kernel) ?_
      refine pe_put (j := 88) (ci := 8) (n := 7) (ty := .int) (by decide +kernel) (by decide +kernel) rfl (by decide) (pm_fit_int _) rfl ?_
      refine pe_aload_n (j := 0) (by decide +kernel) rfl ?_
      refine pe_get (j := 12) (ci := 11) (n := 0) (by decide +kernel) (by decide +kernel) rfl rfl ?_
      refine pe_iload_n (j := 1) (by decide +kernel) rfl ?_
      refine pe_iload_n (j := 2) (by decide +kernel) rfl ?_
      refine pe_callV (j := 91) (mj := 17) (by decide +kernel) rfl ?_
      refine pe_iload_n (j := 1) (by decide +kernel) rfl ?_
      refine pe_if_eq (off := 10) (t := 11) (by decide +kernel) (by decide) rfl (fun h20 => ?_) (fun h20 => ?_)
      rotate_left
      · exact absurd h20 (by decide)
      refine pe_iload_n (j := 1) (by decide +kernel) rfl ?_
      refine pe_if_ne (off := 10) (t := 22) (by decide +kernel) (by decide) rfl (fun h21 => ?_) (fun h21 => ?_)
      · exact absurd h21 (by decide)
      refine pe_aload_n (j := 0) (by decide +kernel) rfl ?_
      refine pe_get (j := 33) (ci := 8) (n := 2) (by decide +kernel) (by decide +kernel) rfl rfl ?_
      refine pe_goto (off := 7) (t := 26) (by decide +kernel) (by decide) rfl ?_
      refine pe_istore_n (j := 3) (ls' := [_, _, _, _, _]) (by decide +kernel) (Nat.le_of_ble_eq_true rfl) rfl ?_
      refine pe_iload_n (j := 1) (by decide +kernel) rfl ?_
      refine pe_if_ne (off := 7) (t := 35) (by decide +kernel) (by decide) rfl (fun h22 => ?_) (fun h22 => ?_)
      · exact absurd h22 (by decide)
      refine pe_iconstv (n := 2) (v := 2) (by decide +kernel) (by decide +kernel) ?_
      refine pe_goto (off := 4) (t := 36) (by decide +kernel) (by decide) rfl ?_
      refine pe_istore (j := 4) (ls' := [_, _, _, _, _]) (by decide +kernel) (Nat.le_of_ble_eq_true rfl) rfl ?_
      refine pe_iload_n (j := 2) (by decide +kernel) rfl ?_
      refine pe_iconstv (n := (-1)) (v := (-1)) (by decide +kernel) (by decide +kernel) ?_
      refine pe_icmp_ne (off := 15) (t := 55) (by decide +kernel) (by decide) rfl (fun h23 => ?_) (fun h23 => ?_)
      · skip
        refine pe_iload_n (j := 2) (by decide +kernel) rfl ?_
        refine pe_if_lt (off := 12) (t := 68) (by decide +kernel) (by decide) rfl (fun h24 => ?_) (fun h24 => ?_)
        · skip
          refine pe_iconstv (n := (-1)) (v := (-1)) (by decide +kernel) (by decide +kernel) ?_
          refine pe_iret (by decide +kernel) rfl rfl ?_
          show pmE pg _ pg_tyl pg_cl _ 16 41 _ _ _ _
          refine pe_istore (j := 4) (ls' := [_, _, _, _, _]) (by decide +kernel) (Nat.le_of_ble_eq_true rfl) rfl ?_
          refine pe_iload (j := 4) (by decide +kernel) rfl ?_
          refine pe_iconstv (n := (-1)) (v := (-1)) (by decide +kernel) (by decide +kernel) ?_
          refine pe_icmp_ne (off := 6) (t := 52) (by decide +kernel) (by decide) rfl (fun h25 => ?_) (fun h25 => ?_)
          · exact absurd h25 (by decide)
          refine pe_bipushv (n := (-2)) (v := (-2)) (by decide +kernel) (by decide +kernel) ?_
          refine pe_iret (by decide +kernel) rfl rfl ?_
          show pmE pg _ pg_tyl pg_cl _ 318 316 _ _ _ _
          refine pe_aload_n (j := 2) (by decide +kernel) rfl ?_
          refine pe_aloadX_n (j := 0) (by decide +kernel) rfl ?_
          refine pe_iload_n (j := 3) (by decide +kernel) rfl ?_
          refine pe_iconstv (n := 1) (v := 1) (by decide +kernel) (by decide +kernel) ?_
          refine pe_iadd (by decide +kernel) ?_
          refine pe_top (v := 1) (by decide +kernel) ?_
          refine pe_ialdXv (n := 7) (v := 0) (by decide +kernel) rfl rfl (by decide +kernel) rfl ?_
          refine pe_aloadX_n (j := 0) (by decide +kernel) rfl ?_
          refine pe_iload_n (j := 3) (by decide +kernel) rfl ?_
          refine pe_iconstv (n := 2) (v := 2) (by decide +kernel) (by decide +kernel) ?_
          refine pe_iadd (by decide +kernel) ?_
          refine pe_top (v := 2) (by decide +kernel) ?_
          refine pe_ialdXv (n := 7) (v := x2) (by decide +kernel) rfl rfl (by decide +kernel) rfl ?_
          refine pe_callV (j := 27) (mj := 198) (by decide +kernel) rfl ?_
          refine pe_aload_n (j := 0) (by decide +kernel) rfl ?_
          refine pe_aload_n (j := 0) (by decide +kernel) rfl ?_
          refine pe_get (j := 7) (ci := 12) (n := 0) (by decide +kernel) (by decide +kernel) rfl rfl ?_
          refine pe_iconstv (n := 2) (v := 2) (by decide +kernel) (by decide +kernel) ?_
          refine pe_ialdv (n := 6760) (v := 0) (by decide +kernel) rfl rfl (by decide +kernel) rfl ?_
          refine pe_put (j := 75) (ci := 12) (n := 2) (ty := .int) (by decide +kernel) (by decide +kernel) rfl (by decide) (pm_fit_int _) rfl ?_
          refine pe_aload_n (j := 0) (by decide +kernel) rfl ?_
          refine pe_get (j := 7) (ci := 12) (n := 0) (by decide +kernel) (by decide +kernel) rfl rfl ?_
          refine pe_iconstv (n := 2) (v := 2) (by decide +kernel) (by decide +kernel) ?_
          refine pe_iconstv (n := 0) (v := 0) (by decide +kernel) (by decide +kernel) ?_
          refine pe_iastv (n := 6760) (by decide +kernel) rfl rfl (by decide +kernel) rfl ?_
          refine pe_aload_n (j := 0) (by decide +kernel) rfl ?_
          refine pe_get (j := 7) (ci := 12) (n := 0) (by decide +kernel) (by decide +kernel) rfl rfl ?_
          refine pe_iconstv (n := 3) (v := 3) (by decide +kernel) (by decide +kernel) ?_
          refine pe_iconstv (n := 0) (v := 0) (by decide +kernel) (by decide +kernel) ?_
          refine pe_iastv (n := 6760) (by decide +kernel) rfl rfl (by decide +kernel) rfl ?_
          refine pe_aload_n (j := 0) (by decide +kernel) rfl ?_
          refine pe_get (j := 7) (ci := 12) (n := 0) (by decide +kernel) (by decide +kernel) rfl rfl ?_
          refine pe_iconstv (n := 4) (v := 4) (by decide +kernel) (by decide +kernel) ?_
          refine pe_iconstv (n := (-1)) (v := (-1)) (by decide +kernel) (by decide +kernel) ?_
          refine pe_iastv (n := 6760) (by decide +kernel) rfl rfl (by decide +kernel) rfl ?_
          refine pe_iload_n (j := 1) (by decide +kernel) rfl ?_
          refine pe_iconstv (n := 0) (v := 0) (by decide +kernel) (by decide +kernel) ?_
          refine pe_iconstv (n := 1) (v := 1) (by decide +kernel) (by decide +kernel) ?_
          refine pe_callS (j := 119) (mj := 199) (by decide +kernel) (by decide +kernel) rfl ?_
          refine pe_iload_n (j := 0) (by decide +kernel) rfl ?_
          refine pe_iload_n (j := 1) (by decide +kernel) rfl ?_
          refine pe_icmp_lt (off := 12) (t := 14) (by decide +kernel) (by decide) rfl (fun h26 => ?_) (fun h26 => ?_)
          · exact absurd h26 (by decide)
          refine pe_iload_n (j := 0) (by decide +kernel) rfl ?_
          refine pe_iload_n (j := 2) (by decide +kernel) rfl ?_
          refine pe_icmp_gt (off := 7) (t := 14) (by decide +kernel) (by decide) rfl (fun h27 => ?_) (fun h27 => ?_)
          · exact absurd h27 (by decide)
          refine pe_iconstv (n := 1) (v := 1) (by decide +kernel) (by decide +kernel) ?_
          refine pe_goto (off := 4) (t := 15) (by decide +kernel) (by decide) rfl ?_
          refine pe_iret (by decide +kernel) rfl rfl ?_
          show pmE pg _ pg_tyl pg_cl _ 198 37 _ _ _ _
          refine pe_if_eq (off := 32) (t := 69) (by decide +kernel) (by decide) rfl (fun h28 => ?_) (fun h28 => ?_)
          · exact absurd h28 (by decide)
          refine pe_iload_n (j := 2) (by decide +kernel) rfl ?_
          refine pe_iconstv (n := (-1)) (v := (-1)) (by decide +kernel) (by decide +kernel) ?_
          refine pe_icmp_ne (off := 18) (t := 60) (by decide +kernel) (by decide) rfl (fun h29 => ?_) (fun h29 => ?_)
          · skip
            refine pe_aload_n (j := 0) (by decide +kernel) rfl ?_
            refine pe_iload_n (j := 1) (by decide +kernel) rfl ?_
            refine pe_iload_n (j := 2) (by decide +kernel) rfl ?_
            refine pe_callV (j := 153) (mj := 200) (by decide +kernel) rfl ?_
            refine pe_iload_n (j := 2) (by decide +kernel) rfl ?_
            refine pe_iconstv (n := 0) (v := 0) (by decide +kernel) (by decide +kernel) ?_
            refine pe_aload_n (j := 0) (by decide +kernel) rfl ?_
            refine pe_get (j := 7) (ci := 12) (n := 0) (by decide +kernel) (by decide +kernel) rfl rfl ?_
            refine pe_iload_n (j := 1) (by decide +kernel) rfl ?_
            refine pe_ialdv (n := 6760) (v := 0) (by decide +kernel) rfl rfl (by decide +kernel) rfl ?_
            refine pe_iconstv (n := 1) (v := 1) (by decide +kernel) (by decide +kernel) ?_
            refine pe_isub (by decide +kernel) ?_
            refine pe_top (v := (-1)) (by decide +kernel) ?_
            refine pe_callS (j := 119) (mj := 199) (by decide +kernel) (by decide +kernel) rfl ?_
            refine pe_iload_n (j := 0) (by decide +kernel) rfl ?_
            refine pe_iload_n (j := 1) (by decide +kernel) rfl ?_
            refine pe_icmp_lt (off := 12) (t := 14) (by decide +kernel) (by decide) rfl (fun h30 => ?_) (fun h30 => ?_)
            · skip
              refine pe_iconstv (n := 0) (v := 0) (by decide +kernel) (by decide +kernel) ?_
              refine pe_iret (by decide +kernel) rfl rfl ?_
              show pmE pg _ pg_tyl pg_cl _ 200 13 _ _ _ _
              refine pe_iret (by decide +kernel) rfl rfl ?_
              show pmE pg _ pg_tyl pg_cl _ 198 66 _ _ _ _
              refine pe_if_ne (off := 6) (t := 72) (by decide +kernel) (by decide) rfl (fun h31 => ?_) (fun h31 => ?_)
              · exact absurd h31 (by decide)
              refine pe_bipushv (n := (-2)) (v := (-2)) (by decide +kernel) (by decide +kernel) ?_
              refine pe_iret (by decide +kernel) rfl rfl ?_
              show pmE pg _ pg_tyl pg_cl _ 318 330 _ _ _ _
              refine pe_icmp_eq (off := 2147) (t := 2477) (by decide +kernel) (by decide) rfl (fun h32 => ?_) (fun h32 => ?_)
              rotate_left
              · exact absurd h32 (by decide)
              refine pe_iincv (j := 3) (n := 7) (v := 7) (ls' := [_, _, _, _]) (by decide +kernel) rfl (by decide +kernel) rfl ?_
              refine pe_goto (off := (-2462)) (t := 18) (by decide +kernel) (by decide) rfl ?_
              refine pe_iload_n (j := 3) (by decide +kernel) rfl ?_
              refine pe_aloadX_n (j := 0) (by decide +kernel) rfl ?_
              refine pe_alenXv (v := 7) (by decide +kernel) rfl (by decide) rfl ?_
              refine pe_bipushv (n := 7) (v := 7) (by decide +kernel) (by decide +kernel) ?_
              refine pe_isub (by decide +kernel) ?_
              refine pe_top (v := 0) (by decide +kernel) ?_
              refine pe_icmp_gt (off := 2459) (t := 2483) (by decide +kernel) (by decide) rfl (fun h33 => ?_) (fun h33 => ?_)
              rotate_left
              · exact absurd h33 (by decide)
              refine pe_iconstv (n := 1) (v := 1) (by decide +kernel) (by decide +kernel) ?_
              refine pe_iret (by decide +kernel) rfl rfl ?_
              exact ⟨rfl, rfl, rfl⟩
            · skip
              first | exact absurd rfl (by assumption) | (exfalso; simp only [Int32.lt_iff_toInt_lt, Int32.le_iff_toInt_le, ← Int32.toInt_inj, kl_m100000, kl_m3, kl_m2, kl_m1, kl_0, kl_1, kl_2, kl_3, kl_4, kl_5, kl_6, kl_7, kl_8, kl_9, kl_10, kl_11, kl_12, kl_13, kl_14, kl_15, kl_16, kl_17, kl_18, kl_19, kl_20, kl_21, kl_22, kl_23, kl_24, kl_25, kl_26, kl_27, kl_28, kl_29, kl_30, kl_99, kl_100, kl_600, kl_999] at *; omega)
          · skip
            first | exact absurd rfl (by assumption) | (exfalso; simp only [Int32.lt_iff_toInt_lt, Int32.le_iff_toInt_le, ← Int32.toInt_inj, kl_m100000, kl_m3, kl_m2, kl_m1, kl_0, kl_1, kl_2, kl_3, kl_4, kl_5, kl_6, kl_7, kl_8, kl_9, kl_10, kl_11, kl_12, kl_13, kl_14, kl_15, kl_16, kl_17, kl_18, kl_19, kl_20, kl_21, kl_22, kl_23, kl_24, kl_25, kl_26, kl_27, kl_28, kl_29, kl_30, kl_99, kl_100, kl_600, kl_999] at *; omega)
        · skip
          refine pe_iload_n (j := 2) (by decide +kernel) rfl ?_
          refine pe_iload_n (j := 3) (by decide +kernel) rfl ?_
          refine pe_icmp_ge (off := 7) (t := 68) (by decide +kernel) (by decide) rfl (fun h34 => ?_) (fun h34 => ?_)
          · skip
            refine pe_iconstv (n := (-1)) (v := (-1)) (by decide +kernel) (by decide +kernel) ?_
            refine pe_iret (by decide +kernel) rfl rfl ?_
            show pmE pg _ pg_tyl pg_cl _ 16 41 _ _ _ _
            refine pe_istore (j := 4) (ls' := [_, _, _, _, _]) (by decide +kernel) (Nat.le_of_ble_eq_true rfl) rfl ?_
            refine pe_iload (j := 4) (by decide +kernel) rfl ?_
            refine pe_iconstv (n := (-1)) (v := (-1)) (by decide +kernel) (by decide +kernel) ?_
            refine pe_icmp_ne (off := 6) (t := 52) (by decide +kernel) (by decide) rfl (fun h35 => ?_) (fun h35 => ?_)
            · exact absurd h35 (by decide)
            refine pe_bipushv (n := (-2)) (v := (-2)) (by decide +kernel) (by decide +kernel) ?_
            refine pe_iret (by decide +kernel) rfl rfl ?_
            show pmE pg _ pg_tyl pg_cl _ 318 316 _ _ _ _
            refine pe_aload_n (j := 2) (by decide +kernel) rfl ?_
            refine pe_aloadX_n (j := 0) (by decide +kernel) rfl ?_
            refine pe_iload_n (j := 3) (by decide +kernel) rfl ?_
            refine pe_iconstv (n := 1) (v := 1) (by decide +kernel) (by decide +kernel) ?_
            refine pe_iadd (by decide +kernel) ?_
            refine pe_top (v := 1) (by decide +kernel) ?_
            refine pe_ialdXv (n := 7) (v := 0) (by decide +kernel) rfl rfl (by decide +kernel) rfl ?_
            refine pe_aloadX_n (j := 0) (by decide +kernel) rfl ?_
            refine pe_iload_n (j := 3) (by decide +kernel) rfl ?_
            refine pe_iconstv (n := 2) (v := 2) (by decide +kernel) (by decide +kernel) ?_
            refine pe_iadd (by decide +kernel) ?_
            refine pe_top (v := 2) (by decide +kernel) ?_
            refine pe_ialdXv (n := 7) (v := x2) (by decide +kernel) rfl rfl (by decide +kernel) rfl ?_
            refine pe_callV (j := 27) (mj := 198) (by decide +kernel) rfl ?_
            refine pe_aload_n (j := 0) (by decide +kernel) rfl ?_
            refine pe_aload_n (j := 0) (by decide +kernel) rfl ?_
            refine pe_get (j := 7) (ci := 12) (n := 0) (by decide +kernel) (by decide +kernel) rfl rfl ?_
            refine pe_iconstv (n := 2) (v := 2) (by decide +kernel) (by decide +kernel) ?_
            refine pe_ialdv (n := 6760) (v := 0) (by decide +kernel) rfl rfl (by decide +kernel) rfl ?_
            refine pe_put (j := 75) (ci := 12) (n := 2) (ty := .int) (by decide +kernel) (by decide +kernel) rfl (by decide) (pm_fit_int _) rfl ?_
            refine pe_aload_n (j := 0) (by decide +kernel) rfl ?_
            refine pe_get (j := 7) (ci := 12) (n := 0) (by decide +kernel) (by decide +kernel) rfl rfl ?_
            refine pe_iconstv (n := 2) (v := 2) (by decide +kernel) (by decide +kernel) ?_
            refine pe_iconstv (n := 0) (v := 0) (by decide +kernel) (by decide +kernel) ?_
            refine pe_iastv (n := 6760) (by decide +kernel) rfl rfl (by decide +kernel) rfl ?_
            refine pe_aload_n (j := 0) (by decide +kernel) rfl ?_
            refine pe_get (j := 7) (ci := 12) (n := 0) (by decide +kernel) (by decide +kernel) rfl rfl ?_
            refine pe_iconstv (n := 3) (v := 3) (by decide +kernel) (by decide +kernel) ?_
            refine pe_iconstv (n := 0) (v := 0) (by decide +kernel) (by decide +kernel) ?_
            refine pe_iastv (n := 6760) (by decide +kernel) rfl rfl (by decide +kernel) rfl ?_
            refine pe_aload_n (j := 0) (by decide +kernel) rfl ?_
            refine pe_get (j := 7) (ci := 12) (n := 0) (by decide +kernel) (by decide +kernel) rfl rfl ?_
            refine pe_iconstv (n := 4) (v := 4) (by decide +kernel) (by decide +kernel) ?_
            refine pe_iconstv (n := (-1)) (v := (-1)) (by decide +kernel) (by decide +kernel) ?_
            refine pe_iastv (n := 6760) (by decide +kernel) rfl rfl (by decide +kernel) rfl ?_
            refine pe_iload_n (j := 1) (by decide +kernel) rfl ?_
            refine pe_iconstv (n := 0) (v := 0) (by decide +kernel) (by decide +kernel) ?_
            refine pe_iconstv (n := 1) (v := 1) (by decide +kernel) (by decide +kernel) ?_
            refine pe_callS (j := 119) (mj := 199) (by decide +kernel) (by decide +kernel) rfl ?_
            refine pe_iload_n (j := 0) (by decide +kernel) rfl ?_
            refine pe_iload_n (j := 1) (by decide +kernel) rfl ?_
            refine pe_icmp_lt (off := 12) (t := 14) (by decide +kernel) (by decide) rfl (fun h36 => ?_) (fun h36 => ?_)
            · exact absurd h36 (by decide)
            refine pe_iload_n (j := 0) (by decide +kernel) rfl ?_
            refine pe_iload_n (j := 2) (by decide +kernel) rfl ?_
            refine pe_icmp_gt (off := 7) (t := 14) (by decide +kernel) (by decide) rfl (fun h37 => ?_) (fun h37 => ?_)
            · exact absurd h37 (by decide)
            refine pe_iconstv (n := 1) (v := 1) (by decide +kernel) (by decide +kernel) ?_
            refine pe_goto (off := 4) (t := 15) (by decide +kernel) (by decide) rfl ?_
            refine pe_iret (by decide +kernel) rfl rfl ?_
            show pmE pg _ pg_tyl pg_cl _ 198 37 _ _ _ _
            refine pe_if_eq (off := 32) (t := 69) (by decide +kernel) (by decide) rfl (fun h38 => ?_) (fun h38 => ?_)
            · exact absurd h38 (by decide)
            refine pe_iload_n (j := 2) (by decide +kernel) rfl ?_
            refine pe_iconstv (n := (-1)) (v := (-1)) (by decide +kernel) (by decide +kernel) ?_
            refine pe_icmp_ne (off := 18) (t := 60) (by decide +kernel) (by decide) rfl (fun h39 => ?_) (fun h39 => ?_)
            · skip
              refine pe_aload_n (j := 0) (by decide +kernel) rfl ?_
              refine pe_iload_n (j := 1) (by decide +kernel) rfl ?_
              refine pe_iload_n (j := 2) (by decide +kernel) rfl ?_
              refine pe_callV (j := 153) (mj := 200) (by decide +kernel) rfl ?_
              refine pe_iload_n (j := 2) (by decide +kernel) rfl ?_
              refine pe_iconstv (n := 0) (v := 0) (by decide +kernel) (by decide +kernel) ?_
              refine pe_aload_n (j := 0) (by decide +kernel) rfl ?_
              refine pe_get (j := 7) (ci := 12) (n := 0) (by decide +kernel) (by decide +kernel) rfl rfl ?_
              refine pe_iload_n (j := 1) (by decide +kernel) rfl ?_
              refine pe_ialdv (n := 6760) (v := 0) (by decide +kernel) rfl rfl (by decide +kernel) rfl ?_
              refine pe_iconstv (n := 1) (v := 1) (by decide +kernel) (by decide +kernel) ?_
              refine pe_isub (by decide +kernel) ?_
              refine pe_top (v := (-1)) (by decide +kernel) ?_
              refine pe_callS (j := 119) (mj := 199) (by decide +kernel) (by decide +kernel) rfl ?_
              refine pe_iload_n (j := 0) (by decide +kernel) rfl ?_
              refine pe_iload_n (j := 1) (by decide +kernel) rfl ?_
              refine pe_icmp_lt (off := 12) (t := 14) (by decide +kernel) (by decide) rfl (fun h40 => ?_) (fun h40 => ?_)
              · skip
                first | exact absurd rfl (by assumption) | (exfalso; simp only [Int32.lt_iff_toInt_lt, Int32.le_iff_toInt_le, ← Int32.toInt_inj, kl_m100000, kl_m3, kl_m2, kl_m1, kl_0, kl_1, kl_2, kl_3, kl_4, kl_5, kl_6, kl_7, kl_8, kl_9, kl_10, kl_11, kl_12, kl_13, kl_14, kl_15, kl_16, kl_17, kl_18, kl_19, kl_20, kl_21, kl_22, kl_23, kl_24, kl_25, kl_26, kl_27, kl_28, kl_29, kl_30, kl_99, kl_100, kl_600, kl_999] at *; omega)
              · skip
                refine pe_iload_n (j := 0) (by decide +kernel) rfl ?_
                refine pe_iload_n (j := 2) (by decide +kernel) rfl ?_
                refine pe_icmp_gt (off := 7) (t := 14) (by decide +kernel) (by decide) rfl (fun h41 => ?_) (fun h41 => ?_)
                · skip
                  refine pe_iconstv (n := 0) (v := 0) (by decide +kernel) (by decide +kernel) ?_
                  refine pe_iret (by decide +kernel) rfl rfl ?_
                  show pmE pg _ pg_tyl pg_cl _ 200 13 _ _ _ _
                  refine pe_iret (by decide +kernel) rfl rfl ?_
                  show pmE pg _ pg_tyl pg_cl _ 198 66 _ _ _ _
                  refine pe_if_ne (off := 6) (t := 72) (by decide +kernel) (by decide) rfl (fun h42 => ?_) (fun h42 => ?_)
                  · exact absurd h42 (by decide)
                  refine pe_bipushv (n := (-2)) (v := (-2)) (by decide +kernel) (by decide +kernel) ?_
                  refine pe_iret (by decide +kernel) rfl rfl ?_
                  show pmE pg _ pg_tyl pg_cl _ 318 330 _ _ _ _
                  refine pe_icmp_eq (off := 2147) (t := 2477) (by decide +kernel) (by decide) rfl (fun h43 => ?_) (fun h43 => ?_)
                  rotate_left
                  · exact absurd h43 (by decide)
                  refine pe_iincv (j := 3) (n := 7) (v := 7) (ls' := [_, _, _, _]) (by decide +kernel) rfl (by decide +kernel) rfl ?_
                  refine pe_goto (off := (-2462)) (t := 18) (by decide +kernel) (by decide) rfl ?_
                  refine pe_iload_n (j := 3) (by decide +kernel) rfl ?_
                  refine pe_aloadX_n (j := 0) (by decide +kernel) rfl ?_
                  refine pe_alenXv (v := 7) (by decide +kernel) rfl (by decide) rfl ?_
                  refine pe_bipushv (n := 7) (v := 7) (by decide +kernel) (by decide +kernel) ?_
                  refine pe_isub (by decide +kernel) ?_
                  refine pe_top (v := 0) (by decide +kernel) ?_
                  refine pe_icmp_gt (off := 2459) (t := 2483) (by decide +kernel) (by decide) rfl (fun h44 => ?_) (fun h44 => ?_)
                  rotate_left
                  · exact absurd h44 (by decide)
                  refine pe_iconstv (n := 1) (v := 1) (by decide +kernel) (by decide +kernel) ?_
                  refine pe_iret (by decide +kernel) rfl rfl ?_
                  exact ⟨rfl, rfl, rfl⟩
                · skip
                  first | exact absurd rfl (by assumption) | (exfalso; simp only [Int32.lt_iff_toInt_lt, Int32.le_iff_toInt_le, ← Int32.toInt_inj, kl_m100000, kl_m3, kl_m2, kl_m1, kl_0, kl_1, kl_2, kl_3, kl_4, kl_5, kl_6, kl_7, kl_8, kl_9, kl_10, kl_11, kl_12, kl_13, kl_14, kl_15, kl_16, kl_17, kl_18, kl_19, kl_20, kl_21, kl_22, kl_23, kl_24, kl_25, kl_26, kl_27, kl_28, kl_29, kl_30, kl_99, kl_100, kl_600, kl_999] at *; omega)
            · skip
              first | exact absurd rfl (by assumption) | (exfalso; simp only [Int32.lt_iff_toInt_lt, Int32.le_iff_toInt_le, ← Int32.toInt_inj, kl_m100000, kl_m3, kl_m2, kl_m1, kl_0, kl_1, kl_2, kl_3, kl_4, kl_5, kl_6, kl_7, kl_8, kl_9, kl_10, kl_11, kl_12, kl_13, kl_14, kl_15, kl_16, kl_17, kl_18, kl_19, kl_20, kl_21, kl_22, kl_23, kl_24, kl_25, kl_26, kl_27, kl_28, kl_29, kl_30, kl_99, kl_100, kl_600, kl_999] at *; omega)
          · skip
            first | exact absurd rfl (by assumption) | (exfalso; simp only [Int32.lt_iff_toInt_lt, Int32.le_iff_toInt_le, ← Int32.toInt_inj, kl_m100000, kl_m3, kl_m2, kl_m1, kl_0, kl_1, kl_2, kl_3, kl_4, kl_5, kl_6, kl_7, kl_8, kl_9, kl_10, kl_11, kl_12, kl_13, kl_14, kl_15, kl_16, kl_17, kl_18, kl_19, kl_20, kl_21, kl_22, kl_23, kl_24, kl_25, kl_26, kl_27, kl_28, kl_29, kl_30, kl_99, kl_100, kl_600, kl_999] at *; omega)
      · skip
        first | exact absurd rfl (by assumption) | (exfalso; simp only [Int32.lt_iff_toInt_lt, Int32.le_iff_toInt_le, ← Int32.toInt_inj, kl_m100000, kl_m3, kl_m2, kl_m1, kl_0, kl_1, kl_2, kl_3, kl_4, kl_5, kl_6, kl_7, kl_8, kl_9, kl_10, kl_11, kl_12, kl_13, kl_14, kl_15, kl_16, kl_17, kl_18, kl_19, kl_20, kl_21, kl_22, kl_23, kl_24, kl_25, kl_26, kl_27, kl_28, kl_29, kl_30, kl_99, kl_100, kl_600, kl_999] at *; omega)
  · skip
    by_cases e1 : x1 = 1
    · subst e1
      by_cases f1 : x2 = (-1)
      · subst f1
        obtain ⟨w1, h1, g1⟩ := pe_on1_of (f := 60000) (d := 40) (m1 := 16) (v := 0) (l1 := pm_ent 5 [.ref 0, .int 1, .int (-1)]) (by decide +kernel)
        refine pe_aload_n (j := 1) (by decide +kernel) rfl ?_
        refine pe_aloadX_n (j := 0) (by decide +kernel) rfl ?_
        refine pe_iload_n (j := 3) (by decide +kernel) rfl ?_
        refine pe_iconstv (n := 1) (v := 1) (by decide +kernel) (by decide +kernel) ?_
        refine pe_iadd (by decide +kernel) ?_
        refine pe_top (v := 1) (by decide +kernel) ?_
        refine pe_ialdXv (n := 7) (v := 1) (by decide +kernel) rfl rfl (by decide +kernel) rfl ?_
        refine pe_aloadX_n (j := 0) (by decide +kernel) rfl ?_
        refine pe_iload_n (j := 3) (by decide +kernel) rfl ?_
        refine pe_iconstv (n := 2) (v := 2) (by decide +kernel) (by decide +kernel) ?_
        refine pe_iadd (by decide +kernel) ?_
        refine pe_top (v := 2) (by decide +kernel) ?_
        refine pe_ialdXv (n := 7) (v := (-1)) (by decide +kernel) rfl rfl (by decide +kernel) rfl ?_
        refine pe_callV (j := 23) (mj := 16) (by decide +kernel) rfl (pmE.of (h1 _) ?_)
        show pmE pg _ pg_tyl pg_cl _ 318 316 _ _ _ _
        refine pe_aload_n (j := 2) (by decide +kernel) rfl ?_
        refine pe_aloadX_n (j := 0) (by decide +kernel) rfl ?_
        refine pe_iload_n (j := 3) (by decide +kernel) rfl ?_
        refine pe_iconstv (n := 1) (v := 1) (by decide +kernel) (by decide +kernel) ?_
        refine pe_iadd (by decide +kernel) ?_
        refine pe_top (v := 1) (by decide +kernel) ?_
        refine pe_ialdXv (n := 7) (v := 1) (by decide +kernel) rfl rfl (by decide +kernel) rfl ?_
        refine pe_aloadX_n (j := 0) (by decide +kernel) rfl ?_
        refine pe_iload_n (j := 3) (by decide +kernel) rfl ?_
        refine pe_iconstv (n := 2) (v := 2) (by decide +kernel) (by decide +kernel) ?_
        refine pe_iadd (by decide +kernel) ?_
        refine pe_top (v := 2) (by decide +kernel) ?_
        refine pe_ialdXv (n := 7) (v := (-1)) (by decide +kernel) rfl rfl (by decide +kernel) rfl ?_
        refine pe_callV (j := 27) (mj := 198) (d' := 40) (vs := [.ref 147, .int 1, .int (-1)]) (st' := [.int 0]) (by decide +kernel) (cll_V (args := [.int (-1), .int 1]) (n := 2) (by decide +kernel) rfl rfl (tx_on g1).1 (by decide +kernel) (Nat.le_of_ble_eq_true rfl) (Nat.le_of_ble_eq_true rfl)) (tx_s1 (d := 38) (tx_on g1) (fun w2 => ?_))
        show pmE pg _ pg_tyl pg_cl _ 318 330 _ _ _ _
        refine pe_icmp_eq (off := 2147) (t := 2477) (by decide +kernel) (by decide) rfl (fun h45 => ?_) (fun h45 => ?_)
        · skip
          refine pe_iincv (j := 3) (n := 7) (v := 7) (ls' := [_, _, _, _]) (by decide +kernel) rfl (by decide +kernel) rfl ?_
          refine pe_goto (off := (-2462)) (t := 18) (by decide +kernel) (by decide) rfl ?_
          refine pe_iload_n (j := 3) (by decide +kernel) rfl ?_
          refine pe_aloadX_n (j := 0) (by decide +kernel) rfl ?_
          refine pe_alenXv (v := 7) (by decide +kernel) rfl (by decide) rfl ?_
          refine pe_bipushv (n := 7) (v := 7) (by decide +kernel) (by decide +kernel) ?_
          refine pe_isub (by decide +kernel) ?_
          refine pe_top (v := 0) (by decide +kernel) ?_
          refine pe_icmp_gt (off := 2459) (t := 2483) (by decide +kernel) (by decide) rfl (fun h46 => ?_) (fun h46 => ?_)
          rotate_left
          · exact absurd h46 (by decide)
          refine pe_iconstv (n := 1) (v := 1) (by decide +kernel) (by decide +kernel) ?_
          refine pe_iret (by decide +kernel) rfl rfl ?_
          exact ⟨rfl, rfl, rfl⟩
        · skip
          first | exact absurd rfl (by assumption) | (exfalso; simp only [Int32.lt_iff_toInt_lt, Int32.le_iff_toInt_le, ← Int32.toInt_inj, kl_m100000, kl_m3, kl_m2, kl_m1, kl_0, kl_1, kl_2, kl_3, kl_4, kl_5, kl_6, kl_7, kl_8, kl_9, kl_10, kl_11, kl_12, kl_13, kl_14, kl_15, kl_16, kl_17, kl_18, kl_19, kl_20, kl_21, kl_22, kl_23, kl_24, kl_25, kl_26, kl_27, kl_28, kl_29, kl_30, kl_99, kl_100, kl_600, kl_999] at *; omega)
      · skip
        refine pe_aload_n (j := 1) (by decide +kernel) rfl ?_
        refine pe_aloadX_n (j := 0) (by decide +kernel) rfl ?_
        refine pe_iload_n (j := 3) (by decide +kernel) rfl ?_
        refine pe_iconstv (n := 1) (v := 1) (by decide +kernel) (by decide +kernel) ?_
        refine pe_iadd (by decide +kernel) ?_
        refine pe_top (v := 1) (by decide +kernel) ?_
        refine pe_ialdXv (n := 7) (v := 1) (by decide +kernel) rfl rfl (by decide +kernel) rfl ?_
        refine pe_aloadX_n (j := 0) (by decide +kernel) rfl ?_
        refine pe_iload_n (j := 3) (by decide +kernel) rfl ?_
        refine pe_iconstv (n := 2) (v := 2) (by decide +kernel) (by decide +kernel) ?_
        refine pe_iadd (by decide +kernel) ?_
        refine pe_top (v := 2) (by decide +kernel) ?_
        refine pe_ialdXv (n := 7) (v := x2) (by decide +kernel) rfl rfl (by decide +kernel) rfl ?_
        refine pe_callV (j := 23) (mj := 16) (by decide +kernel) rfl ?_
        refine pe_aload_n (j := 0) (by decide +kernel) rfl ?_
        refine pe_get (j := 12) (ci := 11) (n := 0) (by decide +kernel) (by decide +kernel) rfl rfl ?_
        refine pe_get (j := 77) (ci := 8) (n := 5) (by decide +kernel) (by decide +kernel) rfl rfl ?_
        refine pe_istore_n (j := 3) (ls' := [_, _, _, _, _]) (by decide +kernel) (Nat.le_of_ble_eq_true rfl) rfl ?_
        refine pe_aload_n (j := 0) (by decide +kernel) rfl ?_
        refine pe_get (j := 12) (ci := 11) (n := 0) (by decide +kernel) (by decide +kernel) rfl rfl ?_
        refine pe_iconstv (n := 0) (v := 0) (by decide +kernel) (by decide +kernel) ?_
        refine pe_put (j := 77) (ci := 8) (n := 5) (ty := .int) (by decide +kernel) (by decide +kernel) rfl (by decide) (pm_fit_int _) rfl ?_
        refine pe_aload_n (j := 0) (by decide +kernel) rfl ?_
        refine pe_get (j := 12) (ci := 11) (n := 0) (by decide +kernel) (by decide +kernel) rfl rfl ?_
        refine pe_iconstv (n := 0) (v := 0) (by decide +kernel) (by decide +kernel) ?_
        refine pe_put (j := 85) (ci := 8) (n := 6) (ty := .int) (by decide +kernel) (by decide +kernel) rfl (by decide) (pm_fit_int _) rfl ?_
        refine pe_aload_n (j := 0) (by decide +kernel) rfl ?_
        refine pe_get (j := 12) (ci := 11) (n := 0) (by decide +kernel) (by decide +kernel) rfl rfl ?_
        refine pe_iconstv (n := (-1)) (v := (-1)) (by decide +kernel) (by decide +kernel) ?_
        refine pe_put (j := 88) (ci := 8) (n := 7) (ty := .int) (by decide +kernel) (by decide +kernel) rfl (by decide) (pm_fit_int _) rfl ?_
        refine pe_aload_n (j := 0) (by decide +kernel) rfl ?_
        refine pe_get (j := 12) (ci := 11) (n := 0) (by decide +kernel) (by decide +kernel) rfl rfl ?_
        refine pe_iload_n (j := 1) (by decide +kernel) rfl ?_
        refine pe_iload_n (j := 2) (by decide +kernel) rfl ?_
        refine pe_callV (j := 91) (mj := 17) (by decide +kernel) rfl ?_
        refine pe_iload_n (j := 1) (by decide +kernel) rfl ?_
        refine pe_if_eq (off := 10) (t := 11) (by decide +kernel) (by decide) rfl (fun h47 => ?_) (fun h47 => ?_)
        · exact absurd h47 (by decide)
        refine pe_iload_n (j := 1) (by decide +kernel) rfl ?_
        refine pe_iconstv (n := 1) (v := 1) (by decide +kernel) (by decide +kernel) ?_
        refine pe_icmp_eq (off := 5) (t := 11) (by decide +kernel) (by decide) rfl (fun h48 => ?_) (fun h48 => ?_)
        rotate_left
        · exact absurd h48 (by decide)
        refine pe_iload_n (j := 1) (by decide +kernel) rfl ?_
        refine pe_if_ne (off := 10) (t := 22) (by decide +kernel) (by decide) rfl (fun h49 => ?_) (fun h49 => ?_)
        rotate_left
        · exact absurd h49 (by decide)
        refine pe_aload_n (j := 0) (by decide +kernel) rfl ?_
        refine pe_get (j := 36) (ci := 8) (n := 3) (by decide +kernel) (by decide +kernel) rfl rfl ?_
        refine pe_istore_n (j := 3) (ls' := [_, _, _, _, _]) (by decide +kernel) (Nat.le_of_ble_eq_true rfl) rfl ?_
        refine pe_iload_n (j := 1) (by decide +kernel) rfl ?_
        refine pe_if_ne (off := 7) (t := 35) (by decide +kernel) (by decide) rfl (fun h50 => ?_) (fun h50 => ?_)
        rotate_left
        · exact absurd h50 (by decide)
        refine pe_iconstv (n := 3) (v := 3) (by decide +kernel) (by decide +kernel) ?_
        refine pe_istore (j := 4) (ls' := [_, _, _, _, _]) (by decide +kernel) (Nat.le_of_ble_eq_true rfl) rfl ?_
        refine pe_iload_n (j := 2) (by decide +kernel) rfl ?_
        refine pe_iconstv (n := (-1)) (v := (-1)) (by decide +kernel) (by decide +kernel) ?_
        refine pe_icmp_ne (off := 15) (t := 55) (by decide +kernel) (by decide) rfl (fun h51 => ?_) (fun h51 => ?_)
        · skip
          refine pe_iload_n (j := 2) (by decide +kernel) rfl ?_
          refine pe_if_lt (off := 12) (t := 68) (by decide +kernel) (by decide) rfl (fun h52 => ?_) (fun h52 => ?_)
          · skip
            refine pe_iconstv (n := (-1)) (v := (-1)) (by decide +kernel) (by decide +kernel) ?_
            refine pe_iret (by decide +kernel) rfl rfl ?_
            show pmE pg _ pg_tyl pg_cl _ 16 41 _ _ _ _
            refine pe_istore (j := 4) (ls' := [_, _, _, _, _]) (by decide +kernel) (Nat.le_of_ble_eq_true rfl) rfl ?_
            refine pe_iload (j := 4) (by decide +kernel) rfl ?_
            refine pe_iconstv (n := (-1)) (v := (-1)) (by decide +kernel) (by decide +kernel) ?_
            refine pe_icmp_ne (off := 6) (t := 52) (by decide +kernel) (by decide) rfl (fun h53 => ?_) (fun h53 => ?_)
            · exact absurd h53 (by decide)
            refine pe_bipushv (n := (-2)) (v := (-2)) (by decide +kernel) (by decide +kernel) ?_
            refine pe_iret (by decide +kernel) rfl rfl ?_
            show pmE pg _ pg_tyl pg_cl _ 318 316 _ _ _ _
            refine pe_aload_n (j := 2) (by decide +kernel) rfl ?_
            refine pe_aloadX_n (j := 0) (by decide +kernel) rfl ?_
            refine pe_iload_n (j := 3) (by decide +kernel) rfl ?_
            refine pe_iconstv (n := 1) (v := 1) (by decide +kernel) (by decide +kernel) ?_
            refine pe_iadd (by decide +kernel) ?_
            refine pe_top (v := 1) (by decide +kernel) ?_
            refine pe_ialdXv (n := 7) (v := 1) (by decide +kernel) rfl rfl (by decide +kernel) rfl ?_
            refine pe_aloadX_n (j := 0) (by decide +kernel) rfl ?_
            refine pe_iload_n (j := 3) (by decide +kernel) rfl ?_
            refine pe_iconstv (n := 2) (v := 2) (by decide +kernel) (by decide +kernel) ?_
            refine pe_iadd (by decide +kernel) ?_
            refine pe_top (v := 2) (by decide +kernel) ?_
            refine pe_ialdXv (n := 7) (v := x2) (by decide +kernel) rfl rfl (by decide +kernel) rfl ?_
            refine pe_callV (j := 27) (mj := 198) (by decide +kernel) rfl ?_
            refine pe_aload_n (j := 0) (by decide +kernel) rfl ?_
            refine pe_aload_n (j := 0) (by decide +kernel) rfl ?_
            refine pe_get (j := 7) (ci := 12) (n := 0) (by decide +kernel) (by decide +kernel) rfl rfl ?_
            refine pe_iconstv (n := 2) (v := 2) (by decide +kernel) (by decide +kernel) ?_
            refine pe_ialdv (n := 6760) (v := 0) (by decide +kernel) rfl rfl (by decide +kernel) rfl ?_
            refine pe_put (j := 75) (ci := 12) (n := 2) (ty := .int) (by decide +kernel) (by decide +kernel) rfl (by decide) (pm_fit_int _) rfl ?_
            refine pe_aload_n (j := 0) (by decide +kernel) rfl ?_
            refine pe_get (j := 7) (ci := 12) (n := 0) (by decide +kernel) (by decide +kernel) rfl rfl ?_
            refine pe_iconstv (n := 2) (v := 2) (by decide +kernel) (by decide +kernel) ?_
            refine pe_iconstv (n := 0) (v := 0) (by decide +kernel) (by decide +kernel) ?_
            refine pe_iastv (n := 6760) (by decide +kernel) rfl rfl (by decide +kernel) rfl ?_
            refine pe_aload_n (j := 0) (by decide +kernel) rfl ?_
            refine pe_get (j := 7) (ci := 12) (n := 0) (by decide +kernel) (by decide +kernel) rfl rfl ?_
            refine pe_iconstv (n := 3) (v := 3) (by decide +kernel) (by decide +kernel) ?_
            refine pe_iconstv (n := 0) (v := 0) (by decide +kernel) (by decide +kernel) ?_
            refine pe_iastv (n := 6760) (by decide +kernel) rfl rfl (by decide +kernel) rfl ?_
            refine pe_aload_n (j := 0) (by decide +kernel) rfl ?_
            refine pe_get (j := 7) (ci := 12) (n := 0) (by decide +kernel) (by decide +kernel) rfl rfl ?_
            refine pe_iconstv (n := 4) (v := 4) (by decide +kernel) (by decide +kernel) ?_
            refine pe_iconstv (n := (-1)) (v := (-1)) (by decide +kernel) (by decide +kernel) ?_
            refine pe_iastv (n := 6760) (by decide +kernel) rfl rfl (by decide +kernel) rfl ?_
            refine pe_iload_n (j := 1) (by decide +kernel) rfl ?_
            refine pe_iconstv (n := 0) (v := 0) (by decide +kernel) (by decide +kernel) ?_
            refine pe_iconstv (n := 1) (v := 1) (by decide +kernel) (by decide +kernel) ?_
            refine pe_callS (j := 119) (mj := 199) (by decide +kernel) (by decide +kernel) rfl ?_
            refine pe_iload_n (j := 0) (by decide +kernel) rfl ?_
            refine pe_iload_n (j := 1) (by decide +kernel) rfl ?_
            refine pe_icmp_lt (off := 12) (t := 14) (by decide +kernel) (by decide) rfl (fun h54 => ?_) (fun h54 => ?_)
            · exact absurd h54 (by decide)
            refine pe_iload_n (j := 0) (by decide +kernel) rfl ?_
            refine pe_iload_n (j := 2) (by decide +kernel) rfl ?_
            refine pe_icmp_gt (off := 7) (t := 14) (by decide +kernel) (by decide) rfl (fun h55 => ?_) (fun h55 => ?_)
            · exact absurd h55 (by decide)
            refine pe_iconstv (n := 1) (v := 1) (by decide +kernel) (by decide +kernel) ?_
            refine pe_goto (off := 4) (t := 15) (by decide +kernel) (by decide) rfl ?_
            refine pe_iret (by decide +kernel) rfl rfl ?_
            show pmE pg _ pg_tyl pg_cl _ 198 37 _ _ _ _
            refine pe_if_eq (off := 32) (t := 69) (by decide +kernel) (by decide) rfl (fun h56 => ?_) (fun h56 => ?_)
            · exact absurd h56 (by decide)
            refine pe_iload_n (j := 2) (by decide +kernel) rfl ?_
            refine pe_iconstv (n := (-1)) (v := (-1)) (by decide +kernel) (by decide +kernel) ?_
            refine pe_icmp_ne (off := 18) (t := 60) (by decide +kernel) (by decide) rfl (fun h57 => ?_) (fun h57 => ?_)
            · skip
              refine pe_aload_n (j := 0) (by decide +kernel) rfl ?_
              refine pe_iload_n (j := 1) (by decide +kernel) rfl ?_
              refine pe_iload_n (j := 2) (by decide +kernel) rfl ?_
              refine pe_callV (j := 153) (mj := 200) (by decide +kernel) rfl ?_
              refine pe_iload_n (j := 2) (by decide +kernel) rfl ?_
              refine pe_iconstv (n := 0) (v := 0) (by decide +kernel) (by decide +kernel) ?_
              refine pe_aload_n (j := 0) (by decide +kernel) rfl ?_
              refine pe_get (j := 7) (ci := 12) (n := 0) (by decide +kernel) (by decide +kernel) rfl rfl ?_
              refine pe_iload_n (j := 1) (by decide +kernel) rfl ?_
              refine pe_ialdv (n := 6760) (v := 0) (by decide +kernel) rfl rfl (by decide +kernel) rfl ?_
              refine pe_iconstv (n := 1) (v := 1) (by decide +kernel) (by decide +kernel) ?_
              refine pe_isub (by decide +kernel) ?_
              refine pe_top (v := (-1)) (by decide +kernel) ?_
              refine pe_callS (j := 119) (mj := 199) (by decide +kernel) (by decide +kernel) rfl ?_
              refine pe_iload_n (j := 0) (by decide +kernel) rfl ?_
              refine pe_iload_n (j := 1) (by decide +kernel) rfl ?_
              refine pe_icmp_lt (off := 12) (t := 14) (by decide +kernel) (by decide) rfl (fun h58 => ?_) (fun h58 => ?_)
              · skip
                refine pe_iconstv (n := 0) (v := 0) (by decide +kernel) (by decide +kernel) ?_
                refine pe_iret (by decide +kernel) rfl rfl ?_
                show pmE pg _ pg_tyl pg_cl _ 200 13 _ _ _ _
                refine pe_iret (by decide +kernel) rfl rfl ?_
                show pmE pg _ pg_tyl pg_cl _ 198 66 _ _ _ _
                refine pe_if_ne (off := 6) (t := 72) (by decide +kernel) (by decide) rfl (fun h59 => ?_) (fun h59 => ?_)
                · exact absurd h59 (by decide)
                refine pe_bipushv (n := (-2)) (v := (-2)) (by decide +kernel) (by decide +kernel) ?_
                refine pe_iret (by decide +kernel) rfl rfl ?_
                show pmE pg _ pg_tyl pg_cl _ 318 330 _ _ _ _
                refine pe_icmp_eq (off := 2147) (t := 2477) (by decide +kernel) (by decide) rfl (fun h60 => ?_) (fun h60 => ?_)
                rotate_left
                · exact absurd h60 (by decide)
                refine pe_iincv (j := 3) (n := 7) (v := 7) (ls' := [_, _, _, _]) (by decide +kernel) rfl (by decide +kernel) rfl ?_
                refine pe_goto (off := (-2462)) (t := 18) (by decide +kernel) (by decide) rfl ?_
                refine pe_iload_n (j := 3) (by decide +kernel) rfl ?_
                refine pe_aloadX_n (j := 0) (by decide +kernel) rfl ?_
                refine pe_alenXv (v := 7) (by decide +kernel) rfl (by decide) rfl ?_
                refine pe_bipushv (n := 7) (v := 7) (by decide +kernel) (by decide +kernel) ?_
                refine pe_isub (by decide +kernel) ?_
                refine pe_top (v := 0) (by decide +kernel) ?_
                refine pe_icmp_gt (off := 2459) (t := 2483) (by decide +kernel) (by decide) rfl (fun h61 => ?_) (fun h61 => ?_)
                rotate_left
                · exact absurd h61 (by decide)
                refine pe_iconstv (n := 1) (v := 1) (by decide +kernel) (by decide +kernel) ?_
                refine pe_iret (by decide +kernel) rfl rfl ?_
                exact ⟨rfl, rfl, rfl⟩
              · skip
                first | exact absurd rfl (by assumption) | (exfalso; simp only [Int32.lt_iff_toInt_lt, Int32.le_iff_toInt_le, ← Int32.toInt_inj, kl_m100000, kl_m3, kl_m2, kl_m1, kl_0, kl_1, kl_2, kl_3, kl_4, kl_5, kl_6, kl_7, kl_8, kl_9, kl_10, kl_11, kl_12, kl_13, kl_14, kl_15, kl_16, kl_17, kl_18, kl_19, kl_20, kl_21, kl_22, kl_23, kl_24, kl_25, kl_26, kl_27, kl_28, kl_29, kl_30, kl_99, kl_100, kl_600, kl_999] at *; omega)
            · skip
              first | exact absurd rfl (by assumption) | (exfalso; simp only [Int32.lt_iff_toInt_lt, Int32.le_iff_toInt_le, ← Int32.toInt_inj, kl_m100000, kl_m3, kl_m2, kl_m1, kl_0, kl_1, kl_2, kl_3, kl_4, kl_5, kl_6, kl_7, kl_8, kl_9, kl_10, kl_11, kl_12, kl_13, kl_14, kl_15, kl_16, kl_17, kl_18, kl_19, kl_20, kl_21, kl_22, kl_23, kl_24, kl_25, kl_26, kl_27, kl_28, kl_29, kl_30, kl_99, kl_100, kl_600, kl_999] at *; omega)
          · skip
            refine pe_iload_n (j := 2) (by decide +kernel) rfl ?_
            refine pe_iload_n (j := 3) (by decide +kernel) rfl ?_
            refine pe_icmp_ge (off := 7) (t := 68) (by decide +kernel) (by decide) rfl (fun h62 => ?_) (fun h62 => ?_)
            · skip
              refine pe_iconstv (n := (-1)) (v := (-1)) (by decide +kernel) (by decide +kernel) ?_
              refine pe_iret (by decide +kernel) rfl rfl ?_
              show pmE pg _ pg_tyl pg_cl _ 16 41 _ _ _ _
              refine pe_istore (j := 4) (ls' := [_, _, _, _, _]) (by decide +kernel) (Nat.le_of_ble_eq_true rfl) rfl ?_
              refine pe_iload (j := 4) (by decide +kernel) rfl ?_
              refine pe_iconstv (n := (-1)) (v := (-1)) (by decide +kernel) (by decide +kernel) ?_
              refine pe_icmp_ne (off := 6) (t := 52) (by decide +kernel) (by decide) rfl (fun h63 => ?_) (fun h63 => ?_)
              · exact absurd h63 (by decide)
              refine pe_bipushv (n := (-2)) (v := (-2)) (by decide +kernel) (by decide +kernel) ?_
              refine pe_iret (by decide +kernel) rfl rfl ?_
              show pmE pg _ pg_tyl pg_cl _ 318 316 _ _ _ _
              refine pe_aload_n (j := 2) (by decide +kernel) rfl ?_
              refine pe_aloadX_n (j := 0) (by decide +kernel) rfl ?_
              refine pe_iload_n (j := 3) (by decide +kernel) rfl ?_
              refine pe_iconstv (n := 1) (v := 1) (by decide +kernel) (by decide +kernel) ?_
              refine pe_iadd (by decide +kernel) ?_
              refine pe_top (v := 1) (by decide +kernel) ?_
              refine pe_ialdXv (n := 7) (v := 1) (by decide +kernel) rfl rfl (by decide +kernel) rfl ?_
              refine pe_aloadX_n (j := 0) (by decide +kernel) rfl ?_
              refine pe_iload_n (j := 3) (by decide +kernel) rfl ?_
              refine pe_iconstv (n := 2) (v := 2) (by decide +kernel) (by decide +kernel) ?_
              refine pe_iadd (by decide +kernel) ?_
              refine pe_top (v := 2) (by decide +kernel) ?_
              refine pe_ialdXv (n := 7) (v := x2) (by decide +kernel) rfl rfl (by decide +kernel) rfl ?_
              refine pe_callV (j := 27) (mj := 198) (by decide +kernel) rfl ?_
              refine pe_aload_n (j := 0) (by decide +kernel) rfl ?_
              refine pe_aload_n (j := 0) (by decide +kernel) rfl ?_
              refine pe_get (j := 7) (ci := 12) (n := 0) (by decide +kernel) (by decide +kernel) rfl rfl ?_
              refine pe_iconstv (n := 2) (v := 2) (by decide +kernel) (by decide +kernel) ?_
              refine pe_ialdv (n := 6760) (v := 0) (by decide +kernel) rfl rfl (by decide +kernel) rfl ?_
              refine pe_put (j := 75) (ci := 12) (n := 2) (ty := .int) (by decide +kernel) (by decide +kernel) rfl (by decide) (pm_fit_int _) rfl ?_
              refine pe_aload_n (j := 0) (by decide +kernel) rfl ?_
              refine pe_get (j := 7) (ci := 12) (n := 0) (by decide +kernel) (by decide +kernel) rfl rfl ?_
              refine pe_iconstv (n := 2) (v := 2) (by decide +kernel) (by decide +kernel) ?_
              refine pe_iconstv (n := 0) (v := 0) (by decide +kernel) (by decide +kernel) ?_
              refine pe_iastv (n := 6760) (by decide +kernel) rfl rfl (by decide +kernel) rfl ?_
              refine pe_aload_n (j := 0) (by decide +kernel) rfl ?_
              refine pe_get (j := 7) (ci := 12) (n := 0) (by decide +kernel) (by decide +kernel) rfl rfl ?_
              refine pe_iconstv (n := 3) (v := 3) (by decide +kernel) (by decide +kernel) ?_
              refine pe_iconstv (n := 0) (v := 0) (by decide +kernel) (by decide +kernel) ?_
              refine pe_iastv (n := 6760) (by decide +kernel) rfl rfl (by decide +kernel) rfl ?_
              refine pe_aload_n (j := 0) (by decide +kernel) rfl ?_
              refine pe_get (j := 7) (ci := 12) (n := 0) (by decide +kernel) (by decide +kernel) rfl rfl ?_
              refine pe_iconstv (n := 4) (v := 4) (by decide +kernel) (by decide +kernel) ?_
              refine pe_iconstv (n := (-1)) (v := (-1)) (by decide +kernel) (by decide +kernel) ?_
              refine pe_iastv (n := 6760) (by decide +kernel) rfl rfl (by decide +kernel) rfl ?_
              refine pe_iload_n (j := 1) (by decide +kernel) rfl ?_
              refine pe_iconstv (n := 0) (v := 0) (by decide +kernel) (by decide +kernel) ?_
              refine pe_iconstv (n := 1) (v := 1) (by decide +kernel) (by decide +kernel) ?_
              refine pe_callS (j := 119) (mj := 199) (by decide +kernel) (by decide +kernel) rfl ?_
              refine pe_iload_n (j := 0) (by decide +kernel) rfl ?_
              refine pe_iload_n (j := 1) (by decide +kernel) rfl ?_
              refine pe_icmp_lt (off := 12) (t := 14) (by decide +kernel) (by decide) rfl (fun h64 => ?_) (fun h64 => ?_)
              · exact absurd h64 (by decide)
              refine pe_iload_n (j := 0) (by decide +kernel) rfl ?_
              refine pe_iload_n (j := 2) (by decide +kernel) rfl ?_
              refine pe_icmp_gt (off := 7) (t := 14) (by decide +kernel) (by decide) rfl (fun h65 => ?_) (fun h65 => ?_)
              · exact absurd h65 (by decide)
              refine pe_iconstv (n := 1) (v := 1) (by decide +kernel) (by decide +kernel) ?_
              refine pe_goto (off := 4) (t := 15) (by decide +kernel) (by decide) rfl ?_
              refine pe_iret (by decide +kernel) rfl rfl ?_
              show pmE pg _ pg_tyl pg_cl _ 198 37 _ _ _ _
              refine pe_if_eq (off := 32) (t := 69) (by decide +kernel) (by decide) rfl (fun h66 => ?_) (fun h66 => ?_)
              · exact absurd h66 (by decide)
              refine pe_iload_n (j := 2) (by decide +kernel) rfl ?_
              refine pe_iconstv (n := (-1)) (v := (-1)) (by decide +kernel) (by decide +kernel) ?_
              refine pe_icmp_ne (off := 18) (t := 60) (by decide +kernel) (by decide) rfl (fun h67 => ?_) (fun h67 => ?_)
              · skip
                refine pe_aload_n (j := 0) (by decide +kernel) rfl ?_
                refine pe_iload_n (j := 1) (by decide +kernel) rfl ?_
                refine pe_iload_n (j := 2) (by decide +kernel) rfl ?_
                refine pe_callV (j := 153) (mj := 200) (by decide +kernel) rfl ?_
                refine pe_iload_n (j := 2) (by decide +kernel) rfl ?_
                refine pe_iconstv (n := 0) (v := 0) (by decide +kernel) (by decide +kernel) ?_
                refine pe_aload_n (j := 0) (by decide +kernel) rfl ?_
                refine pe_get (j := 7) (ci := 12) (n := 0) (by decide +kernel) (by decide +kernel) rfl rfl ?_
                refine pe_iload_n (j := 1) (by decide +kernel) rfl ?_
                refine pe_ialdv (n := 6760) (v := 0) (by decide +kernel) rfl rfl (by decide +kernel) rfl ?_
                refine pe_iconstv (n := 1) (v := 1) (by decide +kernel) (by decide +kernel) ?_
                refine pe_isub (by decide +kernel) ?_
                refine pe_top (v := (-1)) (by decide +kernel) ?_
                refine pe_callS (j := 119) (mj := 199) (by decide +kernel) (by decide +kernel) rfl ?_
                refine pe_iload_n (j := 0) (by decide +kernel) rfl ?_
                refine pe_iload_n (j := 1) (by decide +kernel) rfl ?_
                refine pe_icmp_lt (off := 12) (t := 14) (by decide +kernel) (by decide) rfl (fun h68 => ?_) (fun h68 => ?_)
                · skip
                  first | exact absurd rfl (by assumption) | (exfalso; simp only [Int32.lt_iff_toInt_lt, Int32.le_iff_toInt_le, ← Int32.toInt_inj, kl_m100000, kl_m3, kl_m2, kl_m1, kl_0, kl_1, kl_2, kl_3, kl_4, kl_5, kl_6, kl_7, kl_8, kl_9, kl_10, kl_11, kl_12, kl_13, kl_14, kl_15, kl_16, kl_17, kl_18, kl_19, kl_20, kl_21, kl_22, kl_23, kl_24, kl_25, kl_26, kl_27, kl_28, kl_29, kl_30, kl_99, kl_100, kl_600, kl_999] at *; omega)
                · skip
                  refine pe_iload_n (j := 0) (by decide +kernel) rfl ?_
                  refine pe_iload_n (j := 2) (by decide +kernel) rfl ?_
                  refine pe_icmp_gt (off := 7) (t := 14) (by decide +kernel) (by decide) rfl (fun h69 => ?_) (fun h69 => ?_)
                  · skip
                    refine pe_iconstv (n := 0) (v := 0) (by decide +kernel) (by decide +kernel) ?_
                    refine pe_iret (by decide +kernel) rfl rfl ?_
                    show pmE pg _ pg_tyl pg_cl _ 200 13 _ _ _ _
                    refine pe_iret (by decide +kernel) rfl rfl ?_
                    show pmE pg _ pg_tyl pg_cl _ 198 66 _ _ _ _
                    refine pe_if_ne (off := 6) (t := 72) (by decide +kernel) (by decide) rfl (fun h70 => ?_) (fun h70 => ?_)
                    · exact absurd h70 (by decide)
                    refine pe_bipushv (n := (-2)) (v := (-2)) (by decide +kernel) (by decide +kernel) ?_
                    refine pe_iret (by decide +kernel) rfl rfl ?_
                    show pmE pg _ pg_tyl pg_cl _ 318 330 _ _ _ _
                    refine pe_icmp_eq (off := 2147) (t := 2477) (by decide +kernel) (by decide) rfl (fun h71 => ?_) (fun h71 => ?_)
                    rotate_left
                    · exact absurd h71 (by decide)
                    refine pe_iincv (j := 3) (n := 7) (v := 7) (ls' := [_, _, _, _]) (by decide +kernel) rfl (by decide +kernel) rfl ?_
                    refine pe_goto (off := (-2462)) (t := 18) (by decide +kernel) (by decide) rfl ?_
                    refine pe_iload_n (j := 3) (by decide +kernel) rfl ?_
                    refine pe_aloadX_n (j := 0) (by decide +kernel) rfl ?_
                    refine pe_alenXv (v := 7) (by decide +kernel) rfl (by decide) rfl ?_
                    refine pe_bipushv (n := 7) (v := 7) (by decide +kernel) (by decide +kernel) ?_
                    refine pe_isub (by decide +kernel) ?_
                    refine pe_top (v := 0) (by decide +kernel) ?_
                    refine pe_icmp_gt (off := 2459) (t := 2483) (by decide +kernel) (by decide) rfl (fun h72 => ?_) (fun h72 => ?_)
                    rotate_left
                    · exact absurd h72 (by decide)
                    refine pe_iconstv (n := 1) (v := 1) (by decide +kernel) (by decide +kernel) ?_
                    refine pe_iret (by decide +kernel) rfl rfl ?_
                    exact ⟨rfl, rfl, rfl⟩
                  · skip
                    first | exact absurd rfl (by assumption) | (exfalso; simp only [Int32.lt_iff_toInt_lt, Int32.le_iff_toInt_le, ← Int32.toInt_inj, kl_m100000, kl_m3, kl_m2, kl_m1, kl_0, kl_1, kl_2, kl_3, kl_4, kl_5, kl_6, kl_7, kl_8, kl_9, kl_10, kl_11, kl_12, kl_13, kl_14, kl_15, kl_16, kl_17, kl_18, kl_19, kl_20, kl_21, kl_22, kl_23, kl_24, kl_25, kl_26, kl_27, kl_28, kl_29, kl_30, kl_99, kl_100, kl_600, kl_999] at *; omega)
              · skip
                first | exact absurd rfl (by assumption) | (exfalso; simp only [Int32.lt_iff_toInt_lt, Int32.le_iff_toInt_le, ← Int32.toInt_inj, kl_m100000, kl_m3, kl_m2, kl_m1, kl_0, kl_1, kl_2, kl_3, kl_4, kl_5, kl_6, kl_7, kl_8, kl_9, kl_10, kl_11, kl_12, kl_13, kl_14, kl_15, kl_16, kl_17, kl_18, kl_19, kl_20, kl_21, kl_22, kl_23, kl_24, kl_25, kl_26, kl_27, kl_28, kl_29, kl_30, kl_99, kl_100, kl_600, kl_999] at *; omega)
            · skip
              first | exact absurd rfl (by assumption) | (exfalso; simp only [Int32.lt_iff_toInt_lt, Int32.le_iff_toInt_le, ← Int32.toInt_inj, kl_m100000, kl_m3, kl_m2, kl_m1, kl_0, kl_1, kl_2, kl_3, kl_4, kl_5, kl_6, kl_7, kl_8, kl_9, kl_10, kl_11, kl_12, kl_13, kl_14, kl_15, kl_16, kl_17, kl_18, kl_19, kl_20, kl_21, kl_22, kl_23, kl_24, kl_25, kl_26, kl_27, kl_28, kl_29, kl_30, kl_99, kl_100, kl_600, kl_999] at *; omega)
        · skip
          first | exact absurd rfl (by assumption) | (exfalso; simp only [Int32.lt_iff_toInt_lt, Int32.le_iff_toInt_le, ← Int32.toInt_inj, kl_m100000, kl_m3, kl_m2, kl_m1, kl_0, kl_1, kl_2, kl_3, kl_4, kl_5, kl_6, kl_7, kl_8, kl_9, kl_10, kl_11, kl_12, kl_13, kl_14, kl_15, kl_16, kl_17, kl_18, kl_19, kl_20, kl_21, kl_22, kl_23, kl_24, kl_25, kl_26, kl_27, kl_28, kl_29, kl_30, kl_99, kl_100, kl_600, kl_999] at *; omega)
    · skip
      refine pe_aload_n (j := 1) (by decide +kernel) rfl ?_
      refine pe_aloadX_n (j := 0) (by decide +kernel) rfl ?_
      refine pe_iload_n (j := 3) (by decide +kernel) rfl ?_
      refine pe_iconstv (n := 1) (v := 1) (by decide +kernel) (by decide +kernel) ?_
      refine pe_iadd (by decide +kernel) ?_
      refine pe_top (v := 1) (by decide +kernel) ?_
      refine pe_ialdXv (n := 7) (v := x1) (by decide +kernel) rfl rfl (by decide +kernel) rfl ?_
      refine pe_aloadX_n (j := 0) (by decide +kernel) rfl ?_
      refine pe_iload_n (j := 3) (by decide +kernel) rfl ?_
      refine pe_iconstv (n := 2) (v := 2) (by decide +kernel) (by decide +kernel) ?_
      refine pe_iadd (by decide +kernel) ?_
      refine pe_top (v := 2) (by decide +kernel) ?_
      refine pe_ialdXv (n := 7) (v := x2) (by decide +kernel) rfl rfl (by decide +kernel) rfl ?_
      refine pe_callV (j := 23) (mj := 16) (by decide +kernel) rfl ?_
      refine pe_aload_n (j := 0) (by decide +kernel) rfl ?_
      refine pe_get (j := 12) (ci := 11) (n := 0) (by decide +kernel) (by decide +kernel) rfl rfl ?_
      refine pe_get (j := 77) (ci := 8) (n := 5) (by decide +kernel) (by decide +kernel) rfl rfl ?_
      refine pe_istore_n (j := 3) (ls' := [_, _, _, _, _]) (by decide +kernel) (Nat.le_of_ble_eq_true rfl) rfl ?_
      refine pe_aload_n (j := 0) (by decide +kernel) rfl ?_
      refine pe_get (j := 12) (ci := 11) (n := 0) (by decide +kernel) (by decide +kernel) rfl rfl ?_
      refine pe_iconstv (n := 0) (v := 0) (by decide +kernel) (by decide +kernel) ?_
      refine pe_put (j := 77) (ci := 8) (n := 5) (ty := .int) (by decide +kernel) (by decide +kernel) rfl (by decide) (pm_fit_int _) rfl ?_
      refine pe_aload_n (j := 0) (by decide +kernel) rfl ?_
      refine pe_get (j := 12) (ci := 11) (n := 0) (by decide +kernel) (by decide +kernel) rfl rfl ?_
      refine pe_iconstv (n := 0) (v := 0) (by decide +kernel) (by decide +kernel) ?_
      refine pe_put (j := 85) (ci := 8) (n := 6) (ty := .int) (by decide +kernel) (by decide +kernel) rfl (by decide) (pm_fit_int _) rfl ?_
      refine pe_aload_n (j := 0) (by decide +kernel) rfl ?_
      refine pe_get (j := 12) (ci := 11) (n := 0) (by decide +kernel) (by decide +kernel) rfl rfl ?_
      refine pe_iconstv (n := (-1)) (v := (-1)) (by decide +kernel) (by decide +kernel) ?_
      refine pe_put (j := 88) (ci := 8) (n := 7) (ty := .int) (by decide +kernel) (by decide +kernel) rfl (by decide) (pm_fit_int _) rfl ?_
      refine pe_aload_n (j := 0) (by decide +kernel) rfl ?_
      refine pe_get (j := 12) (ci := 11) (n := 0) (by decide +kernel) (by decide +kernel) rfl rfl ?_
      refine pe_iload_n (j := 1) (by decide +kernel) rfl ?_
      refine pe_iload_n (j := 2) (by decide +kernel) rfl ?_
      refine pe_callV (j := 91) (mj := 17) (by decide +kernel) rfl ?_
      refine pe_iload_n (j := 1) (by decide +kernel) rfl ?_
      refine pe_if_eq (off := 10) (t := 11) (by decide +kernel) (by decide) rfl (fun h73 => ?_) (fun h73 => ?_)
      · skip
        first | exact absurd rfl (by assumption) | (exfalso; simp only [Int32.lt_iff_toInt_lt, Int32.le_iff_toInt_le, ← Int32.toInt_inj, kl_m100000, kl_m3, kl_m2, kl_m1, kl_0, kl_1, kl_2, kl_3, kl_4, kl_5, kl_6, kl_7, kl_8, kl_9, kl_10, kl_11, kl_12, kl_13, kl_14, kl_15, kl_16, kl_17, kl_18, kl_19, kl_20, kl_21, kl_22, kl_23, kl_24, kl_25, kl_26, kl_27, kl_28, kl_29, kl_30, kl_99, kl_100, kl_600, kl_999] at *; omega)
      · skip
        refine pe_iload_n (j := 1) (by decide +kernel) rfl ?_
        refine pe_iconstv (n := 1) (v := 1) (by decide +kernel) (by decide +kernel) ?_
        refine pe_icmp_eq (off := 5) (t := 11) (by decide +kernel) (by decide) rfl (fun h74 => ?_) (fun h74 => ?_)
        · skip
          first | exact absurd rfl (by assumption) | (exfalso; simp only [Int32.lt_iff_toInt_lt, Int32.le_iff_toInt_le, ← Int32.toInt_inj, kl_m100000, kl_m3, kl_m2, kl_m1, kl_0, kl_1, kl_2, kl_3, kl_4, kl_5, kl_6, kl_7, kl_8, kl_9, kl_10, kl_11, kl_12, kl_13, kl_14, kl_15, kl_16, kl_17, kl_18, kl_19, kl_20, kl_21, kl_22, kl_23, kl_24, kl_25, kl_26, kl_27, kl_28, kl_29, kl_30, kl_99, kl_100, kl_600, kl_999] at *; omega)
        · skip
          refine pe_iconstv (n := (-1)) (v := (-1)) (by decide +kernel) (by decide +kernel) ?_
          refine pe_iret (by decide +kernel) rfl rfl ?_
          show pmE pg _ pg_tyl pg_cl _ 16 41 _ _ _ _
          refine pe_istore (j := 4) (ls' := [_, _, _, _, _]) (by decide +kernel) (Nat.le_of_ble_eq_true rfl) rfl ?_
          refine pe_iload (j := 4) (by decide +kernel) rfl ?_
          refine pe_iconstv (n := (-1)) (v := (-1)) (by decide +kernel) (by decide +kernel) ?_
          refine pe_icmp_ne (off := 6) (t := 52) (by decide +kernel) (by decide) rfl (fun h75 => ?_) (fun h75 => ?_)
          · exact absurd h75 (by decide)
          refine pe_bipushv (n := (-2)) (v := (-2)) (by decide +kernel) (by decide +kernel) ?_
          refine pe_iret (by decide +kernel) rfl rfl ?_
          show pmE pg _ pg_tyl pg_cl _ 318 316 _ _ _ _
          refine pe_aload_n (j := 2) (by decide +kernel) rfl ?_
          refine pe_aloadX_n (j := 0) (by decide +kernel) rfl ?_
          refine pe_iload_n (j := 3) (by decide +kernel) rfl ?_
          refine pe_iconstv (n := 1) (v := 1) (by decide +kernel) (by decide +kernel) ?_
          refine pe_iadd (by decide +kernel) ?_
          refine pe_top (v := 1) (by decide +kernel) ?_
          refine pe_ialdXv (n := 7) (v := x1) (by decide +kernel) rfl rfl (by decide +kernel) rfl ?_
          refine pe_aloadX_n (j := 0) (by decide +kernel) rfl ?_
          refine pe_iload_n (j := 3) (by decide +kernel) rfl ?_
          refine pe_iconstv (n := 2) (v := 2) (by decide +kernel) (by decide +kernel) ?_
          refine pe_iadd (by decide +kernel) ?_
          refine pe_top (v := 2) (by decide +kernel) ?_
          refine pe_ialdXv (n := 7) (v := x2) (by decide +kernel) rfl rfl (by decide +kernel) rfl ?_
          refine pe_callV (j := 27) (mj := 198) (by decide +kernel) rfl ?_
          refine pe_aload_n (j := 0) (by decide +kernel) rfl ?_
          refine pe_aload_n (j := 0) (by decide +kernel) rfl ?_
          refine pe_get (j := 7) (ci := 12) (n := 0) (by decide +kernel) (by decide +kernel) rfl rfl ?_
          refine pe_iconstv (n := 2) (v := 2) (by decide +kernel) (by decide +kernel) ?_
          refine pe_ialdv (n := 6760) (v := 0) (by decide +kernel) rfl rfl (by decide +kernel) rfl ?_
          refine pe_put (j := 75) (ci := 12) (n := 2) (ty := .int) (by decide +kernel) (by decide +kernel) rfl (by decide) (pm_fit_int _) rfl ?_
          refine pe_aload_n (j := 0) (by decide +kernel) rfl ?_
          refine pe_get (j := 7) (ci := 12) (n := 0) (by decide +kernel) (by decide +kernel) rfl rfl ?_
          refine pe_iconstv (n := 2) (v := 2) (by decide +kernel) (by decide +kernel) ?_
          refine pe_iconstv (n := 0) (v := 0) (by decide +kernel) (by decide +kernel) ?_
          refine pe_iastv (n := 6760) (by decide +kernel) rfl rfl (by decide +kernel) rfl ?_
          refine pe_aload_n (j := 0) (by decide +kernel) rfl ?_
          refine pe_get (j := 7) (ci := 12) (n := 0) (by decide +kernel) (by decide +kernel) rfl rfl ?_
          refine pe_iconstv (n := 3) (v := 3) (by decide +kernel) (by decide +kernel) ?_
          refine pe_iconstv (n := 0) (v := 0) (by decide +kernel) (by decide +kernel) ?_
          refine pe_iastv (n := 6760) (by decide +kernel) rfl rfl (by decide +kernel) rfl ?_
          refine pe_aload_n (j := 0) (by decide +kernel) rfl ?_
          refine pe_get (j := 7) (ci := 12) (n := 0) (by decide +kernel) (by decide +kernel) rfl rfl ?_
          refine pe_iconstv (n := 4) (v := 4) (by decide +kernel) (by decide +kernel) ?_
          refine pe_iconstv (n := (-1)) (v := (-1)) (by decide +kernel) (by decide +kernel) ?_
          refine pe_iastv (n := 6760) (by decide +kernel) rfl rfl (by decide +kernel) rfl ?_
          refine pe_iload_n (j := 1) (by decide +kernel) rfl ?_
          refine pe_iconstv (n := 0) (v := 0) (by decide +kernel) (by decide +kernel) ?_
          refine pe_iconstv (n := 1) (v := 1) (by decide +kernel) (by decide +kernel) ?_
          refine pe_callS (j := 119) (mj := 199) (by decide +kernel) (by decide +kernel) rfl ?_
          refine pe_iload_n (j := 0) (by decide +kernel) rfl ?_
          refine pe_iload_n (j := 1) (by decide +kernel) rfl ?_
          refine pe_icmp_lt (off := 12) (t := 14) (by decide +kernel) (by decide) rfl (fun h76 => ?_) (fun h76 => ?_)
          · skip
            refine pe_iconstv (n := 0) (v := 0) (by decide +kernel) (by decide +kernel) ?_
            refine pe_iret (by decide +kernel) rfl rfl ?_
            show pmE pg _ pg_tyl pg_cl _ 198 37 _ _ _ _
            refine pe_if_eq (off := 32) (t := 69) (by decide +kernel) (by decide) rfl (fun h77 => ?_) (fun h77 => ?_)
            rotate_left
            · exact absurd h77 (by decide)
            refine pe_bipushv (n := (-2)) (v := (-2)) (by decide +kernel) (by decide +kernel) ?_
            refine pe_iret (by decide +kernel) rfl rfl ?_
            show pmE pg _ pg_tyl pg_cl _ 318 330 _ _ _ _
            refine pe_icmp_eq (off := 2147) (t := 2477) (by decide +kernel) (by decide) rfl (fun h78 => ?_) (fun h78 => ?_)
            rotate_left
            · exact absurd h78 (by decide)
            refine pe_iincv (j := 3) (n := 7) (v := 7) (ls' := [_, _, _, _]) (by decide +kernel) rfl (by decide +kernel) rfl ?_
            refine pe_goto (off := (-2462)) (t := 18) (by decide +kernel) (by decide) rfl ?_
            refine pe_iload_n (j := 3) (by decide +kernel) rfl ?_
            refine pe_aloadX_n (j := 0) (by decide +kernel) rfl ?_
            refine pe_alenXv (v := 7) (by decide +kernel) rfl (by decide) rfl ?_
            refine pe_bipushv (n := 7) (v := 7) (by decide +kernel) (by decide +kernel) ?_
            refine pe_isub (by decide +kernel) ?_
            refine pe_top (v := 0) (by decide +kernel) ?_
            refine pe_icmp_gt (off := 2459) (t := 2483) (by decide +kernel) (by decide) rfl (fun h79 => ?_) (fun h79 => ?_)
            rotate_left
            · exact absurd h79 (by decide)
            refine pe_iconstv (n := 1) (v := 1) (by decide +kernel) (by decide +kernel) ?_
            refine pe_iret (by decide +kernel) rfl rfl ?_
            exact ⟨rfl, rfl, rfl⟩
          · skip
            refine pe_iload_n (j := 0) (by decide +kernel) rfl ?_
            refine pe_iload_n (j := 2) (by decide +kernel) rfl ?_
            refine pe_icmp_gt (off := 7) (t := 14) (by decide +kernel) (by decide) rfl (fun h80 => ?_) (fun h80 => ?_)
            · skip
              refine pe_iconstv (n := 0) (v := 0) (by decide +kernel) (by decide +kernel) ?_
              refine pe_iret (by decide +kernel) rfl rfl ?_
              show pmE pg _ pg_tyl pg_cl _ 198 37 _ _ _ _
              refine pe_if_eq (off := 32) (t := 69) (by decide +kernel) (by decide) rfl (fun h81 => ?_) (fun h81 => ?_)
              rotate_left
              · exact absurd h81 (by decide)
              refine pe_bipushv (n := (-2)) (v := (-2)) (by decide +kernel) (by decide +kernel) ?_
              refine pe_iret (by decide +kernel) rfl rfl ?_
              show pmE pg _ pg_tyl pg_cl _ 318 330 _ _ _ _
              refine pe_icmp_eq (off := 2147) (t := 2477) (by decide +kernel) (by decide) rfl (fun h82 => ?_) (fun h82 => ?_)
              rotate_left
              · exact absurd h82 (by decide)
              refine pe_iincv (j := 3) (n := 7) (v := 7) (ls' := [_, _, _, _]) (by decide +kernel) rfl (by decide +kernel) rfl ?_
              refine pe_goto (off := (-2462)) (t := 18) (by decide +kernel) (by decide) rfl ?_
              refine pe_iload_n (j := 3) (by decide +kernel) rfl ?_
              refine pe_aloadX_n (j := 0) (by decide +kernel) rfl ?_
              refine pe_alenXv (v := 7) (by decide +kernel) rfl (by decide) rfl ?_
              refine pe_bipushv (n := 7) (v := 7) (by decide +kernel) (by decide +kernel) ?_
              refine pe_isub (by decide +kernel) ?_
              refine pe_top (v := 0) (by decide +kernel) ?_
              refine pe_icmp_gt (off := 2459) (t := 2483) (by decide +kernel) (by decide) rfl (fun h83 => ?_) (fun h83 => ?_)
              rotate_left
              · exact absurd h83 (by decide)
              refine pe_iconstv (n := 1) (v := 1) (by decide +kernel) (by decide +kernel) ?_
              refine pe_iret (by decide +kernel) rfl rfl ?_
              exact ⟨rfl, rfl, rfl⟩
            · skip
              first | exact absurd rfl (by assumption) | (exfalso; simp only [Int32.lt_iff_toInt_lt, Int32.le_iff_toInt_le, ← Int32.toInt_inj, kl_m100000, kl_m3, kl_m2, kl_m1, kl_0, kl_1, kl_2, kl_3, kl_4, kl_5, kl_6, kl_7, kl_8, kl_9, kl_10, kl_11, kl_12, kl_13, kl_14, kl_15, kl_16, kl_17, kl_18, kl_19, kl_20, kl_21, kl_22, kl_23, kl_24, kl_25, kl_26, kl_27, kl_28, kl_29, kl_30, kl_99, kl_100, kl_600, kl_999] at *; omega)
