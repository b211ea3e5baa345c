set_option maxRecDepth 1000000 in
theorem fdw_0 : fd_W 0 fw_0 := ⟨rfl, rfl, ⟨_, rfl, List.length_replicate⟩, rfl, rfl⟩
set_option maxRecDepth 1000000 in
theorem fdw_1 {w : pm_W} (h : fd_W 20 w) : fe_W 0 w := ⟨h.2.2.2.1, _, h.2.2.2.2.trans rfl, rfl, rfl⟩
set_option maxRecDepth 1000000 in
set_option maxHeartbeats 4000000 in
theorem p1_c0 (x0 x1 x2 x3 x4 x5 x6 : Int32) : pmE pg (pg_X [x0, x1, x2, x3, x4, x5, x6]) pg_tyl pg_cl 41 318 216 [.retAddr 0, .ref 0, .ref 147, .int 0] [] fw_0 (fun q => q.1 = some (.int 1) ∧ q.2.2.1 = 0 ∧ q.2.2.2 = 0) := by
  refine pe_aload_n (j := 1) (by decide +kernel) rfl ?_
  refine pe_aloadX_n (j := 0) (by decide +kernel) rfl ?_
  refine pe_iload_n (j := 3) (by decide +kernel) rfl ?_
  refine pe_iconstv (n := 1) (v := 1) (by decide +kernel) (by decide +kernel) ?_
  refine pe_iadd (by decide +kernel) ?_
  refine pe_top (v := 1) (by decide +kernel) ?_
  refine pe_ialdXv (n := 7) (v := x1) (by decide +kernel) rfl rfl (by decide +kernel) rfl ?_
  refine pe_aloadX_n (j := 0) (by decide +kernel) rfl ?_
  refine pe_iload_n (j := 3) (by decide +kernel) rfl ?_
  refine pe_iconstv (n := 2) (v := 2) (by decide +kernel) (by decide +kernel) ?_
  refine pe_iadd (by decide +kernel) ?_
  refine pe_top (v := 2) (by decide +kernel) ?_
  refine pe_ialdXv (n := 7) (v := x2) (by decide +kernel) rfl rfl (by decide +kernel) rfl ?_
  refine pe_aloadX_n (j := 0) (by decide +kernel) rfl ?_
  refine pe_iload_n (j := 3) (by decide +kernel) rfl ?_
  refine pe_iconstv (n := 3) (v := 3) (by decide +kernel) (by decide +kernel) ?_
  refine pe_iadd (by decide +kernel) ?_
  refine pe_top (v := 3) (by decide +kernel) ?_
  refine pe_ialdXv (n := 7) (v := x3) (by decide +kernel) rfl rfl (by decide +kernel) rfl ?_
  refine pe_aloadX_n (j := 0) (by decide +kernel) rfl ?_
  refine pe_iload_n (j := 3) (by decide +kernel) rfl ?_
  refine pe_iconstv (n := 4) (v := 4) (by decide +kernel) (by decide +kernel) ?_
  refine pe_iadd (by decide +kernel) ?_
  refine pe_top (v := 4) (by decide +kernel) ?_
  refine pe_ialdXv (n := 7) (v := x4) (by decide +kernel) rfl rfl (by decide +kernel) rfl ?_
  refine pe_aloadX_n (j := 0) (by decide +kernel) rfl ?_
  refine pe_iload_n (j := 3) (by decide +kernel) rfl ?_
  refine pe_iconstv (n := 5) (v := 5) (by decide +kernel) (by decide +kernel) ?_
  refine pe_iadd (by decide +kernel) ?_
  refine pe_top (v := 5) (by decide +kernel) ?_
  refine pe_ialdXv (n := 7) (v := x5) (by decide +kernel) rfl rfl (by decide +kernel) rfl ?_
  refine pe_callV (j := 13) (mj := 13) (d' := 40) (vs := [.ref 0, .int x1, .int x2, .int x3, .int x4, .int x5]) (st' := []) (by decide +kernel) rfl (fd_cls (d := 39) fdw_0 (fun w1 g1 => ?_))
  show pmE pg _ pg_tyl pg_cl _ 318 245 _ _ _ _
  refine pe_aload_n (j := 2) (by decide +kernel) rfl ?_
  refine pe_aloadX_n (j := 0) (by decide +kernel) rfl ?_
  refine pe_iload_n (j := 3) (by decide +kernel) rfl ?_
  refine pe_iconstv (n := 1) (v := 1) (by decide +kernel) (by decide +kernel) ?_
  refine pe_iadd (by decide +kernel) ?_
  refine pe_top (v := 1) (by decide +kernel) ?_
  refine pe_ialdXv (n := 7) (v := x1) (by decide +kernel) rfl rfl (by decide +kernel) rfl ?_
  refine pe_aloadX_n (j := 0) (by decide +kernel) rfl ?_
  refine pe_iload_n (j := 3) (by decide +kernel) rfl ?_
  refine pe_iconstv (n := 2) (v := 2) (by decide +kernel) (by decide +kernel) ?_
  refine pe_iadd (by decide +kernel) ?_
  refine pe_top (v := 2) (by decide +kernel) ?_
  refine pe_ialdXv (n := 7) (v := x2) (by decide +kernel) rfl rfl (by decide +kernel) rfl ?_
  refine pe_aloadX_n (j := 0) (by decide +kernel) rfl ?_
  refine pe_iload_n (j := 3) (by decide +kernel) rfl ?_
  refine pe_iconstv (n := 3) (v := 3) (by decide +kernel) (by decide +kernel) ?_
  refine pe_iadd (by decide +kernel) ?_
  refine pe_top (v := 3) (by decide +kernel) ?_
  refine pe_ialdXv (n := 7) (v := x3) (by decide +kernel) rfl rfl (by decide +kernel) rfl ?_
  refine pe_aloadX_n (j := 0) (by decide +kernel) rfl ?_
  refine pe_iload_n (j := 3) (by decide +kernel) rfl ?_
  refine pe_iconstv (n := 4) (v := 4) (by decide +kernel) (by decide +kernel) ?_
  refine pe_iadd (by decide +kernel) ?_
  refine pe_top (v := 4) (by decide +kernel) ?_
  refine pe_ialdXv (n := 7) (v := x4) (by decide +kernel) rfl rfl (by decide +kernel) rfl ?_
  refine pe_aloadX_n (j := 0) (by decide +kernel) rfl ?_
  refine pe_iload_n (j := 3) (by decide +kernel) rfl ?_
  refine pe_iconstv (n := 5) (v := 5) (by decide +kernel) (by decide +kernel) ?_
  refine pe_iadd (by decide +kernel) ?_
  refine pe_top (v := 5) (by decide +kernel) ?_
  refine pe_ialdXv (n := 7) (v := x5) (by decide +kernel) rfl rfl (by decide +kernel) rfl ?_
  refine pe_callV (j := 17) (mj := 196) (d' := 40) (vs := [.ref 147, .int x1, .int x2, .int x3, .int x4, .int x5]) (st' := [.int 20]) (by decide +kernel) (cll_V (args := [.int x5, .int x4, .int x3, .int x2, .int x1]) (n := 5) (by decide +kernel) rfl rfl (g1.2.2.2.1.trans rfl) (by decide +kernel) (Nat.le_of_ble_eq_true rfl) (Nat.le_of_ble_eq_true rfl)) (fd_ref (fdw_1 g1) (fun w2 g2 => ?_))
  show pmE pg _ pg_tyl pg_cl _ 318 274 _ _ _ _
  refine pe_icmp_eq (off := 2203) (t := 2477) (by decide +kernel) (by decide) rfl (fun h84 => ?_) (fun h84 => ?_)
  · skip
    refine pe_iincv (j := 3) (n := 7) (v := 7) (ls' := [_, _, _, _]) (by decide +kernel) rfl (by decide +kernel) rfl ?_
    refine pe_goto (off := (-2462)) (t := 18) (by decide +kernel) (by decide) rfl ?_
    refine pe_iload_n (j := 3) (by decide +kernel) rfl ?_
    refine pe_aloadX_n (j := 0) (by decide +kernel) rfl ?_
    refine pe_alenXv (v := 7) (by decide +kernel) rfl (by decide) rfl ?_
    refine pe_bipushv (n := 7) (v := 7) (by decide +kernel) (by decide +kernel) ?_
    refine pe_isub (by decide +kernel) ?_
    refine pe_top (v := 0) (by decide +kernel) ?_
    refine pe_icmp_gt (off := 2459) (t := 2483) (by decide +kernel) (by decide) rfl (fun h85 => ?_) (fun h85 => ?_)
    rotate_left
    · exact absurd h85 (by decide)
    refine pe_iconstv (n := 1) (v := 1) (by decide +kernel) (by decide +kernel) ?_
    refine pe_iret (by decide +kernel) rfl rfl ?_
    exact ⟨rfl, rfl, rfl⟩
  · skip
    first | exact absurd rfl (by assumption) | (exfalso; simp only [Int32.lt_iff_toInt_lt, Int32.le_iff_toInt_le, ← Int32.toInt_inj, kl_m100000, kl_m3, kl_m2, kl_m1, kl_0, kl_1, kl_2, kl_3, kl_4, kl_5, kl_6, kl_7, kl_8, kl_9, kl_10, kl_11, kl_12, kl_13, kl_14, kl_15, kl_16, kl_17, kl_18, kl_19, kl_20, kl_21, kl_22, kl_23, kl_24, kl_25, kl_26, kl_27, kl_28, kl_29, kl_30, kl_99, kl_100, kl_600, kl_999] at *; omega)
