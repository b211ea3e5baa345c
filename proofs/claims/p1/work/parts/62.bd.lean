/-! ===== text() and image() of the reference on fresh objects ===== -/
def fl0 : List Value := [.ref 148, .ref 149, .int 0, .int 0, .int 0, .int 0, .int 0, .int 0, .int 0, .int 0, .ref 150, .ref 151, .ref 152, .ref 153, .int 0, .int 0, .int 0, .ref 154, .ref 155, .ref 156, .ref 157, .ref 158, .ref 159, .int 0, .int 0, .ref 160, .ref 161, .ref 162, .ref 163, .ref 164, .ref 165, .int (-1), .int (-1), .int 0, .ref 166, .int 0]
def tx_W (w : pm_W) : Prop := w[147]? = some (.inr (12, fl0)) ∧ (∃ xs : List Int32, w[148]? = some (.inl (0, .inl xs)) ∧ xs.length = 6760 ∧ xs.getD 0 0 = 0 ∧ xs.getD 1 0 = 0 ∧ xs.getD 2 0 = 0 ∧ xs.getD 3 0 = 0) ∧ (∃ zs : List Int32, w[149]? = some (.inl (2, .inl zs)) ∧ zs.length = 3) ∧ ∃ ys : List Int32, w[150]? = some (.inl (0, .inl ys)) ∧ ys.length = 272
theorem tx_put {w : pm_W} {fs : List Value} (h : tx_W w) (e : fs = fl0) : tx_W (w.set 147 (.inr (12, fs))) := by
  subst e
  obtain ⟨h0, ⟨xs, h1, g⟩, ⟨zs, h2, hz⟩, ys, h3, hy⟩ := h
  exact ⟨wk_eq h0, ⟨xs, (wk_ne (by decide)).trans h1, g⟩, ⟨zs, (wk_ne (by decide)).trans h2, hz⟩, ys, (wk_ne (by decide)).trans h3, hy⟩
theorem tx_x {w : pm_W} {xs : List Int32} (h : tx_W w) (hl : xs.length = 6760) (g0 : xs.getD 0 0 = 0) (g1 : xs.getD 1 0 = 0) (g2 : xs.getD 2 0 = 0) (g3 : xs.getD 3 0 = 0) : tx_W (w.set 148 (.inl (0, .inl xs))) := by
  obtain ⟨h0, ⟨xs', h1, g⟩, ⟨zs, h2, hz⟩, ys, h3, hy⟩ := h
  exact ⟨(wk_ne (by decide)).trans h0, ⟨xs, wk_eq h1, hl, g0, g1, g2, g3⟩, ⟨zs, (wk_ne (by decide)).trans h2, hz⟩, ys, (wk_ne (by decide)).trans h3, hy⟩
theorem tx_z {w : pm_W} {zs : List Int32} (h : tx_W w) (hl : zs.length = 3) : tx_W (w.set 149 (.inl (2, .inl zs))) := by
  obtain ⟨h0, ⟨xs, h1, g⟩, ⟨zs', h2, hz⟩, ys, h3, hy⟩ := h
  exact ⟨(wk_ne (by decide)).trans h0, ⟨xs, (wk_ne (by decide)).trans h1, g⟩, ⟨zs, wk_eq h2, hl⟩, ys, (wk_ne (by decide)).trans h3, hy⟩
theorem tx_y {w : pm_W} {ys : List Int32} (h : tx_W w) (hl : ys.length = 272) : tx_W (w.set 150 (.inl (0, .inl ys))) := by
  obtain ⟨h0, ⟨xs, h1, g⟩, ⟨zs, h2, hz⟩, ys', h3, hy⟩ := h
  exact ⟨(wk_ne (by decide)).trans h0, ⟨xs, (wk_ne (by decide)).trans h1, g⟩, ⟨zs, (wk_ne (by decide)).trans h2, hz⟩, ys, wk_eq h3, hl⟩
/-- lengths alone -/
def ty_W (w : pm_W) : Prop := w[147]? = some (.inr (12, fl0)) ∧ (∃ xs : List Int32, w[148]? = some (.inl (0, .inl xs)) ∧ xs.length = 6760) ∧ ∃ ys : List Int32, w[150]? = some (.inl (0, .inl ys)) ∧ ys.length = 272
theorem ty_of {w : pm_W} (h : tx_W w) : ty_W w := by
  obtain ⟨h0, ⟨xs, h1, g, _⟩, _, ys, h3, hy⟩ := h
  exact ⟨h0, ⟨xs, h1, g⟩, ys, h3, hy⟩
theorem ty_x {w : pm_W} {xs : List Int32} (h : ty_W w) (hl : xs.length = 6760) : ty_W (w.set 148 (.inl (0, .inl xs))) := by
  obtain ⟨h0, ⟨xs', h1, g⟩, ys, h3, hy⟩ := h
  exact ⟨(wk_ne (by decide)).trans h0, ⟨xs, wk_eq h1, hl⟩, ys, (wk_ne (by decide)).trans h3, hy⟩
theorem kc_0 : (0 : Int32).toNatClampNeg = 0 := by decide +kernel
theorem kc_1 : (1 : Int32).toNatClampNeg = 1 := by decide +kernel
theorem kc_3 : (3 : Int32).toNatClampNeg = 3 := by decide +kernel
theorem kc_4 : (4 : Int32).toNatClampNeg = 4 := by decide +kernel
theorem tx_l1 {X : pm_X} {d : Nat} {s a : Int32} {v4 v5 : Value} {Q : pm_R → Prop} : ∀ (m i : Nat) (w : pm_W), m + i = 272 → tx_W w → (∀ w' : pm_W, tx_W w' → pmE pg X pg_tyl pg_cl d 198 109 [.ref 147, .int s, .int a, .int (nI 272), v4, v5] [] w' Q) → pmE pg X pg_tyl pg_cl d 198 89 [.ref 147, .int s, .int a, .int (nI i), v4, v5] [] w Q := by
  intro m
  induction m with
  | zero =>
    intro i w hi h k
    have hi : i = 272 := by omega
    subst hi
    refine pe_iload_n (j := 3) (by decide +kernel) rfl ?_
    refine pe_sipushv (n := 272) (v := 272) (by decide +kernel) (by decide +kernel) ?_
    refine pe_icmp_ge (off := 16) (t := 109) (by decide +kernel) (by decide) rfl (fun _ => ?_) (fun h' => absurd (by decide +kernel) h')
    exact k w h
  | succ m ih =>
    intro i w hi h k
    obtain ⟨ys, hy, hyl⟩ := h.2.2.2
    refine pe_iload_n (j := 3) (by decide +kernel) rfl ?_
    refine pe_sipushv (n := 272) (v := nI 272) (by decide +kernel) (by decide +kernel) ?_
    refine pe_icmp_ge (off := 16) (t := 109) (by decide +kernel) (by decide) rfl (fun h' => absurd h' (nI_ge (by omega) (by decide))) (fun _ => ?_)
    refine pe_aload_n (j := 0) (by decide +kernel) rfl ?_
    refine pe_get (j := 17) (ci := 12) (n := 10) (by decide +kernel) (by decide +kernel) h.1 rfl ?_
    refine pe_iload_n (j := 3) (by decide +kernel) rfl ?_
    refine pe_iconstv (n := 0) (v := 0) (by decide +kernel) (by decide +kernel) ?_
    refine pe_iastK (n := 272) (by decide +kernel) hy hyl (pm_in_of (vp_in_nI (by omega) (by decide))) (fun w2 e2 => ?_)
    have h2 : tx_W w2 := e2 ▸ tx_y h (by rw [List.length_set]; exact hyl)
    refine pe_iincv (j := 3) (n := 1) (v := nI (i + 1)) (ls' := [_, _, _, _, _, _]) (by decide +kernel) rfl (nI_1 i) rfl ?_
    refine pe_goto (off := (-17)) (t := 89) (by decide +kernel) (by decide) rfl ?_
    exact ih (i + 1) w2 (by omega) h2 k
set_option maxRecDepth 100000 in
theorem tx_l2_0 {X : pm_X} {d : Nat} {Q : pm_R → Prop} (k : ∀ w' : pm_W, Q (some (.int 0), w', 0, 0)) : ∀ (m i : Nat) (w : pm_W), m + i = 132 → ty_W w → pmE pg X pg_tyl pg_cl (d + 1) 198 255 [.ref 147, .int 0, .int (-1), .int 0, .int 132, .int (nI i)] [] w Q := by
  intro m
  induction m with
  | zero =>
    intro i w hi h
    have hi : i = 132 := by omega
    subst hi
    refine pe_iload (j := 5) (by decide +kernel) rfl ?_
    refine pe_iload (j := 4) (by decide +kernel) rfl ?_
    refine pe_icmp_ge (off := 29) (t := 288) (by decide +kernel) (by decide) rfl (fun _ => ?_) (fun h' => absurd (by decide +kernel) h')
    refine pe_iload_n (j := 3) (by decide +kernel) rfl ?_
    exact pe_iret (by decide +kernel) rfl rfl (k w)
  | succ m ih =>
    intro i w hi h
    obtain ⟨h0, ⟨xs, hx, hxl⟩, ys, hy, hyl⟩ := id h
    refine pe_iload (j := 5) (by decide +kernel) rfl ?_
    refine pe_iload (j := 4) (by decide +kernel) rfl ?_
    refine pe_icmp_ge (off := 29) (t := 288) (by decide +kernel) (by decide) rfl (fun h' => absurd h' (nI_ge (b := 132) (by omega) (by decide))) (fun _ => ?_)
    refine pe_aload_n (j := 0) (by decide +kernel) rfl ?_
    refine pe_get (j := 7) (ci := 12) (n := 0) (by decide +kernel) (by decide +kernel) h0 rfl ?_
    refine pe_iload_n (j := 1) (by decide +kernel) rfl ?_
    refine pe_iload_n (j := 3) (by decide +kernel) rfl ?_
    refine pe_callS (j := 163) (mj := 217) (by decide +kernel) (by decide +kernel) rfl ?_
    refine pe_iload_n (j := 0) (by decide +kernel) rfl ?_
    refine pe_if_ne (off := 15) (t := 16) (by decide +kernel) (by decide) rfl (fun h' => absurd (by decide +kernel) h') (fun _ => ?_)
    refine pe_sipushv (n := 610) (v := 610) (by decide +kernel) (by decide +kernel) ?_
    refine pe_sipushv (n := 132) (v := 132) (by decide +kernel) (by decide +kernel) ?_
    refine pe_iload_n (j := 1) (by decide +kernel) rfl ?_
    refine pe_imul (by decide +kernel) ?_
    refine pe_iadd (by decide +kernel) ?_
    refine pe_goto (off := 12) (t := 25) (by decide +kernel) (by decide) rfl ?_
    refine pe_top (v := nI 610) (by decide +kernel) ?_
    refine pe_iret (by decide +kernel) rfl rfl ?_
    show pmE pg _ pg_tyl pg_cl _ 198 271 _ _ _ _
    refine pe_iload (j := 5) (by decide +kernel) rfl ?_
    refine pe_iadd (by decide +kernel) ?_
    refine pe_top (v := nI (610 + i)) (nI_add 610 i) ?_
    refine pe_aload_n (j := 0) (by decide +kernel) rfl ?_
    refine pe_get (j := 17) (ci := 12) (n := 10) (by decide +kernel) (by decide +kernel) h0 rfl ?_
    refine pe_iload (j := 5) (by decide +kernel) rfl ?_
    refine pe_iald (by decide +kernel) hy (by rw [hyl]; exact vp_in_nI (by omega) (by decide)) ?_
    refine pe_iastK (n := 6760) (by decide +kernel) hx hxl (pm_in_of (vp_in_nI (by omega) (by decide))) (fun w2 e2 => ?_)
    have h2 : ty_W w2 := e2 ▸ ty_x h (by rw [List.length_set]; exact hxl)
    refine pe_iincv (j := 5) (n := 1) (v := nI (i + 1)) (ls' := [_, _, _, _, _, _]) (by decide +kernel) rfl (nI_1 i) rfl ?_
    refine pe_goto (off := (-30)) (t := 255) (by decide +kernel) (by decide) rfl ?_
    refine pmE.imp (ih (i + 1) w2 (by omega) h2) (fun q hq => ?_)
    obtain ⟨r, w3, c3, n3⟩ := q
    show Q (r, w3, 0 + c3, 0 + n3)
    rw [Nat.zero_add, Nat.zero_add]
    exact hq
set_option maxRecDepth 100000 in
theorem tx_s0 {X : pm_X} {d : Nat} {w : pm_W} {Q : pm_R → Prop} (h : tx_W w) (k : ∀ w' : pm_W, Q (some (.int 0), w', 0, 0)) : pmE pg X pg_tyl pg_cl (d + 2) 198 0 (pm_ent (pm_max pg 198) [.ref 147, .int 0, .int (-1)]) [] w Q := by
  show pmE pg X pg_tyl pg_cl (d + 2) 198 0 [.ref 147, .int 0, .int (-1), pm_dead, pm_dead, pm_dead] [] w Q
  obtain ⟨xs, hx, hxl, g0, g1, g2, g3⟩ := h.2.1
  refine pe_aload_n (j := 0) (by decide +kernel) rfl ?_
  refine pe_aload_n (j := 0) (by decide +kernel) rfl ?_
  refine pe_get (j := 7) (ci := 12) (n := 0) (by decide +kernel) (by decide +kernel) h.1 rfl ?_
  refine pe_iconstv (n := 2) (v := 2) (by decide +kernel) (by decide +kernel) ?_
  refine pe_ialdv (n := 6760) (v := 0) (by decide +kernel) hx hxl (by decide +kernel) (by rw [k2_cl]; exact g2) ?_
  refine pe_putK (j := 75) (ci := 12) (n := 2) (ty := .int) (by decide +kernel) (by decide +kernel) h.1 (Nat.le_of_ble_eq_true rfl) (pm_fit_int _) (fun w1 e1 => ?_)
  have t1 : tx_W w1 := e1 ▸ tx_put h rfl
  obtain ⟨xs2, hx2, hx2l, g20, g21, g22, g23⟩ := t1.2.1
  refine pe_aload_n (j := 0) (by decide +kernel) rfl ?_
  refine pe_get (j := 7) (ci := 12) (n := 0) (by decide +kernel) (by decide +kernel) t1.1 rfl ?_
  refine pe_iconstv (n := 2) (v := 2) (by decide +kernel) (by decide +kernel) ?_
  refine pe_iconstv (n := 0) (v := 0) (by decide +kernel) (by decide +kernel) ?_
  refine pe_iastK (n := 6760) (by decide +kernel) hx2 hx2l (by decide +kernel) (fun w2 e2 => ?_)
  rw [k2_cl] at e2
  have t2 : tx_W w2 := e2 ▸ tx_x t1 (by rw [List.length_set]; exact hx2l) ((gd_ne (by decide)).trans g20) ((gd_ne (by decide)).trans g21) (gd_eq (by omega)) ((gd_ne (by decide)).trans g23)
  obtain ⟨xs3, hx3, hx3l, g30, g31, g32, g33⟩ := t2.2.1
  refine pe_aload_n (j := 0) (by decide +kernel) rfl ?_
  refine pe_get (j := 7) (ci := 12) (n := 0) (by decide +kernel) (by decide +kernel) t2.1 rfl ?_
  refine pe_iconstv (n := 3) (v := 3) (by decide +kernel) (by decide +kernel) ?_
  refine pe_iconstv (n := 0) (v := 0) (by decide +kernel) (by decide +kernel) ?_
  refine pe_iastK (n := 6760) (by decide +kernel) hx3 hx3l (by decide +kernel) (fun w3 e3 => ?_)
  rw [kc_3] at e3
  have t3 : tx_W w3 := e3 ▸ tx_x t2 (by rw [List.length_set]; exact hx3l) ((gd_ne (by decide)).trans g30) ((gd_ne (by decide)).trans g31) ((gd_ne (by decide)).trans g32) (gd_eq (by omega))
  obtain ⟨xs4, hx4, hx4l, g40, g41, g42, g43⟩ := t3.2.1
  refine pe_aload_n (j := 0) (by decide +kernel) rfl ?_
  refine pe_get (j := 7) (ci := 12) (n := 0) (by decide +kernel) (by decide +kernel) t3.1 rfl ?_
  refine pe_iconstv (n := 4) (v := 4) (by decide +kernel) (by decide +kernel) ?_
  refine pe_iconstv (n := (-1)) (v := (-1)) (by decide +kernel) (by decide +kernel) ?_
  refine pe_iastK (n := 6760) (by decide +kernel) hx4 hx4l (by decide +kernel) (fun w4 e4 => ?_)
  rw [kc_4] at e4
  have t4 : tx_W w4 := e4 ▸ tx_x t3 (by rw [List.length_set]; exact hx4l) ((gd_ne (by decide)).trans g40) ((gd_ne (by decide)).trans g41) ((gd_ne (by decide)).trans g42) ((gd_ne (by decide)).trans g43)
  refine pe_iload_n (j := 1) (by decide +kernel) rfl ?_
  refine pe_iconstv (n := 0) (v := 0) (by decide +kernel) (by decide +kernel) ?_
  refine pe_iconstv (n := 1) (v := 1) (by decide +kernel) (by decide +kernel) ?_
  refine pe_callS (j := 119) (mj := 199) (by decide +kernel) (by decide +kernel) rfl ?_
  refine pe_iload_n (j := 0) (by decide +kernel) rfl ?_
  refine pe_iload_n (j := 1) (by decide +kernel) rfl ?_
  refine pe_icmp_lt (off := 12) (t := 14) (by decide +kernel) (by decide) rfl (fun h' => absurd h' (by decide)) (fun _ => ?_)
  refine pe_iload_n (j := 0) (by decide +kernel) rfl ?_
  refine pe_iload_n (j := 2) (by decide +kernel) rfl ?_
  refine pe_icmp_gt (off := 7) (t := 14) (by decide +kernel) (by decide) rfl (fun h' => absurd h' (by decide)) (fun _ => ?_)
  refine pe_iconstv (n := 1) (v := 1) (by decide +kernel) (by decide +kernel) ?_
  refine pe_goto (off := 4) (t := 15) (by decide +kernel) (by decide) rfl ?_
  refine pe_iret (by decide +kernel) rfl rfl ?_
  show pmE pg _ pg_tyl pg_cl _ 198 37 _ _ _ _
  refine pe_if_eq (off := 32) (t := 69) (by decide +kernel) (by decide) rfl (fun h' => absurd h' (by decide)) (fun _ => ?_)
  refine pe_iload_n (j := 2) (by decide +kernel) rfl ?_
  refine pe_iconstv (n := (-1)) (v := (-1)) (by decide +kernel) (by decide +kernel) ?_
  refine pe_icmp_ne (off := 18) (t := 60) (by decide +kernel) (by decide) rfl (fun h' => absurd rfl h') (fun _ => ?_)
  obtain ⟨xs5, hx5, hx5l, g50, g51, g52, g53⟩ := t4.2.1
  refine pe_aload_n (j := 0) (by decide +kernel) rfl ?_
  refine pe_get (j := 7) (ci := 12) (n := 0) (by decide +kernel) (by decide +kernel) t4.1 rfl ?_
  refine pe_iload_n (j := 1) (by decide +kernel) rfl ?_
  refine pe_ialdv (n := 6760) (v := 0) (by decide +kernel) hx5 hx5l (by decide +kernel) (by rw [kc_0]; exact g50) ?_
  refine pe_iload_n (j := 1) (by decide +kernel) rfl ?_
  refine pe_iconstv (n := 2) (v := 2) (by decide +kernel) (by decide +kernel) ?_
  refine pe_iadd (by decide +kernel) ?_
  refine pe_top (v := 2) (by decide +kernel) ?_
  refine pe_icmp_lt (off := 18) (t := 72) (by decide +kernel) (by decide) rfl (fun _ => ?_) (fun h' => absurd (by decide) h')
  refine pe_aload_n (j := 0) (by decide +kernel) rfl ?_
  refine pe_iconstv (n := 0) (v := 0) (by decide +kernel) (by decide +kernel) ?_
  refine pe_putK (j := 83) (ci := 12) (n := 3) (ty := .int) (by decide +kernel) (by decide +kernel) t4.1 (Nat.le_of_ble_eq_true rfl) (pm_fit_int _) (fun w10 e10 => ?_)
  have t10 : tx_W w10 := e10 ▸ tx_put t4 rfl
  refine pe_aload_n (j := 0) (by decide +kernel) rfl ?_
  refine pe_iconstv (n := 0) (v := 0) (by decide +kernel) (by decide +kernel) ?_
  refine pe_putK (j := 112) (ci := 12) (n := 8) (ty := .boolean) (by decide +kernel) (by decide +kernel) t10.1 (Nat.le_of_ble_eq_true rfl) (by decide +kernel) (fun w11 e11 => ?_)
  have t11 : tx_W w11 := e11 ▸ tx_put t10 rfl
  refine pe_aload_n (j := 0) (by decide +kernel) rfl ?_
  refine pe_iconstv (n := 0) (v := 0) (by decide +kernel) (by decide +kernel) ?_
  refine pe_putK (j := 134) (ci := 12) (n := 9) (ty := .int) (by decide +kernel) (by decide +kernel) t11.1 (Nat.le_of_ble_eq_true rfl) (pm_fit_int _) (fun w12 e12 => ?_)
  have t12 : tx_W w12 := e12 ▸ tx_put t11 rfl
  refine pe_iconstv (n := 0) (v := nI 0) (by decide +kernel) (by decide +kernel) ?_
  refine pe_istore_n (j := 3) (ls' := [_, _, _, _, _, _]) (by decide +kernel) (Nat.le_of_ble_eq_true rfl) rfl ?_
  refine tx_l1 272 0 w12 rfl t12 (fun w20 t20 => ?_)
  refine pe_aload_n (j := 0) (by decide +kernel) rfl ?_
  refine pe_get (j := 17) (ci := 12) (n := 10) (by decide +kernel) (by decide +kernel) t20.1 rfl ?_
  refine pe_iconstv (n := 0) (v := 0) (by decide +kernel) (by decide +kernel) ?_
  refine pe_iload_n (j := 1) (by decide +kernel) rfl ?_
  refine pe_if_ne (off := 7) (t := 122) (by decide +kernel) (by decide) rfl (fun h' => absurd (by decide) h') (fun _ => ?_)
  refine pe_iconstv (n := 4) (v := 4) (by decide +kernel) (by decide +kernel) ?_
  refine pe_goto (off := 4) (t := 123) (by decide +kernel) (by decide) rfl ?_
  obtain ⟨ys, hy, hyl⟩ := t20.2.2.2
  refine pe_iastK (n := 272) (by decide +kernel) hy hyl (by decide +kernel) (fun w21 e21 => ?_)
  rw [kc_0] at e21
  have t21 : tx_W w21 := e21 ▸ tx_y t20 (by rw [List.length_set]; exact hyl)
  have y21 : w21[150]? = some (.inl (0, .inl (ys.set 0 4))) := e21 ▸ wk_eq hy
  refine pe_aload_n (j := 0) (by decide +kernel) rfl ?_
  refine pe_callV (j := 127) (mj := 201) (d' := d + 1) (vs := [.ref 147]) (st' := []) (by decide +kernel) (cll_V (args := []) (n := 0) (by decide +kernel) rfl rfl t21.1 (by decide +kernel) (by decide) (Nat.le_of_ble_eq_true rfl)) ?_
  refine pe_aload_n (j := 0) (by decide +kernel) rfl ?_
  refine pe_aload_n (j := 0) (by decide +kernel) rfl ?_
  refine pe_get (j := 83) (ci := 12) (n := 3) (by decide +kernel) (by decide +kernel) t21.1 rfl ?_
  refine pe_callV (j := 86) (mj := 202) (d' := d) (vs := [.ref 147, .int 0]) (st' := []) (by decide +kernel) (cll_V (args := [.int 0]) (n := 1) (by decide +kernel) rfl rfl t21.1 (by decide +kernel) (Nat.le_of_ble_eq_true rfl) (Nat.le_of_ble_eq_true rfl)) ?_
  refine pe_iload_n (j := 1) (by decide +kernel) rfl ?_
  refine pe_aload_n (j := 0) (by decide +kernel) rfl ?_
  refine pe_get (j := 75) (ci := 12) (n := 2) (by decide +kernel) (by decide +kernel) t21.1 rfl ?_
  refine pe_icmp_ge (off := 15) (t := 20) (by decide +kernel) (by decide) rfl (fun _ => ?_) (fun h' => absurd (by decide) h')
  refine pe_iconstv (n := (-1)) (v := (-1)) (by decide +kernel) (by decide +kernel) ?_
  refine pe_iret (by decide +kernel) rfl rfl ?_
  show pmE pg _ pg_tyl pg_cl _ 201 8 _ _ _ _
  refine pe_bipushv (n := 10) (v := 10) (by decide +kernel) (by decide +kernel) ?_
  refine pe_icmp_eq (off := 16) (t := 26) (by decide +kernel) (by decide) rfl (fun h' => absurd h' (by decide)) (fun _ => ?_)
  refine pe_aload_n (j := 0) (by decide +kernel) rfl ?_
  refine pe_aload_n (j := 0) (by decide +kernel) rfl ?_
  refine pe_get (j := 83) (ci := 12) (n := 3) (by decide +kernel) (by decide +kernel) t21.1 rfl ?_
  refine pe_callV (j := 86) (mj := 202) (d' := d) (vs := [.ref 147, .int 0]) (st' := []) (by decide +kernel) (cll_V (args := [.int 0]) (n := 1) (by decide +kernel) rfl rfl t21.1 (by decide +kernel) (Nat.le_of_ble_eq_true rfl) (Nat.le_of_ble_eq_true rfl)) ?_
  refine pe_iload_n (j := 1) (by decide +kernel) rfl ?_
  refine pe_aload_n (j := 0) (by decide +kernel) rfl ?_
  refine pe_get (j := 75) (ci := 12) (n := 2) (by decide +kernel) (by decide +kernel) t21.1 rfl ?_
  refine pe_icmp_ge (off := 15) (t := 20) (by decide +kernel) (by decide) rfl (fun _ => ?_) (fun h' => absurd (by decide) h')
  refine pe_iconstv (n := (-1)) (v := (-1)) (by decide +kernel) (by decide +kernel) ?_
  refine pe_iret (by decide +kernel) rfl rfl ?_
  show pmE pg _ pg_tyl pg_cl _ 201 21 _ _ _ _
  refine pe_bipushv (n := 32) (v := 32) (by decide +kernel) (by decide +kernel) ?_
  refine pe_icmp_ne (off := 16) (t := 39) (by decide +kernel) (by decide) rfl (fun _ => ?_) (fun h' => absurd (by decide) h')
  refine pe_aload_n (j := 0) (by decide +kernel) rfl ?_
  refine pe_aload_n (j := 0) (by decide +kernel) rfl ?_
  refine pe_get (j := 83) (ci := 12) (n := 3) (by decide +kernel) (by decide +kernel) t21.1 rfl ?_
  refine pe_putK (j := 90) (ci := 12) (n := 4) (ty := .int) (by decide +kernel) (by decide +kernel) t21.1 (Nat.le_of_ble_eq_true rfl) (pm_fit_int _) (fun w22 e22 => ?_)
  have t22 : tx_W w22 := e22 ▸ tx_put t21 rfl
  have y22 : w22[150]? = some (.inl (0, .inl (ys.set 0 4))) := e22 ▸ (wk_ne (by decide)).trans y21
  refine pe_aload_n (j := 0) (by decide +kernel) rfl ?_
  refine pe_aload_n (j := 0) (by decide +kernel) rfl ?_
  refine pe_get (j := 83) (ci := 12) (n := 3) (by decide +kernel) (by decide +kernel) t22.1 rfl ?_
  refine pe_callV (j := 86) (mj := 202) (d' := d) (vs := [.ref 147, .int 0]) (st' := []) (by decide +kernel) (cll_V (args := [.int 0]) (n := 1) (by decide +kernel) rfl rfl t22.1 (by decide +kernel) (Nat.le_of_ble_eq_true rfl) (Nat.le_of_ble_eq_true rfl)) ?_
  refine pe_iload_n (j := 1) (by decide +kernel) rfl ?_
  refine pe_aload_n (j := 0) (by decide +kernel) rfl ?_
  refine pe_get (j := 75) (ci := 12) (n := 2) (by decide +kernel) (by decide +kernel) t22.1 rfl ?_
  refine pe_icmp_ge (off := 15) (t := 20) (by decide +kernel) (by decide) rfl (fun _ => ?_) (fun h' => absurd (by decide) h')
  refine pe_iconstv (n := (-1)) (v := (-1)) (by decide +kernel) (by decide +kernel) ?_
  refine pe_iret (by decide +kernel) rfl rfl ?_
  show pmE pg _ pg_tyl pg_cl _ 201 55 _ _ _ _
  refine pe_istore_n (j := 1) (ls' := [_, _, _]) (by decide +kernel) (Nat.le_of_ble_eq_true rfl) rfl ?_
  refine pe_iload_n (j := 1) (by decide +kernel) rfl ?_
  refine pe_if_ge (off := 11) (t := 68) (by decide +kernel) (by decide) rfl (fun h' => absurd h' (by decide)) (fun _ => ?_)
  refine pe_aload_n (j := 0) (by decide +kernel) rfl ?_
  refine pe_iconstv (n := 0) (v := 0) (by decide +kernel) (by decide +kernel) ?_
  refine pe_putK (j := 93) (ci := 12) (n := 5) (ty := .int) (by decide +kernel) (by decide +kernel) t22.1 (Nat.le_of_ble_eq_true rfl) (pm_fit_int _) (fun w23 e23 => ?_)
  have t23 : tx_W w23 := e23 ▸ tx_put t22 rfl
  have y23 : w23[150]? = some (.inl (0, .inl (ys.set 0 4))) := e23 ▸ (wk_ne (by decide)).trans y22
  refine pe_goto (off := 243) (t := 308) (by decide +kernel) (by decide) rfl ?_
  refine pe_vret (by decide +kernel) rfl ?_
  show pmE pg _ pg_tyl pg_cl _ 198 128 _ _ _ _
  refine pe_aload_n (j := 0) (by decide +kernel) rfl ?_
  refine pe_get (j := 112) (ci := 12) (n := 8) (by decide +kernel) (by decide +kernel) t23.1 rfl ?_
  refine pe_if_ne (off := 28) (t := 160) (by decide +kernel) (by decide) rfl (fun h' => absurd (by decide) h') (fun _ => ?_)
  refine pe_aload_n (j := 0) (by decide +kernel) rfl ?_
  refine pe_get (j := 93) (ci := 12) (n := 5) (by decide +kernel) (by decide +kernel) t23.1 rfl ?_
  refine pe_if_eq (off := 21) (t := 160) (by decide +kernel) (by decide) rfl (fun _ => ?_) (fun h' => absurd (by decide) h')
  obtain ⟨xs6, hx6, hx6l, g60, g61, g62, g63⟩ := t23.2.1
  refine pe_aload_n (j := 0) (by decide +kernel) rfl ?_
  refine pe_get (j := 7) (ci := 12) (n := 0) (by decide +kernel) (by decide +kernel) t23.1 rfl ?_
  refine pe_iconstv (n := 3) (v := 3) (by decide +kernel) (by decide +kernel) ?_
  refine pe_ialdv (n := 6760) (v := 0) (by decide +kernel) hx6 hx6l (by decide +kernel) (by rw [kc_3]; exact g63) ?_
  refine pe_if_ne (off := 29) (t := 195) (by decide +kernel) (by decide) rfl (fun h' => absurd (by decide) h') (fun _ => ?_)
  refine pe_iload_n (j := 1) (by decide +kernel) rfl ?_
  refine pe_if_ne (off := 25) (t := 195) (by decide +kernel) (by decide) rfl (fun h' => absurd (by decide) h') (fun _ => ?_)
  refine pe_aload_n (j := 0) (by decide +kernel) rfl ?_
  refine pe_get (j := 134) (ci := 12) (n := 9) (by decide +kernel) (by decide +kernel) t23.1 rfl ?_
  refine pe_aload_n (j := 0) (by decide +kernel) rfl ?_
  refine pe_get (j := 17) (ci := 12) (n := 10) (by decide +kernel) (by decide +kernel) t23.1 rfl ?_
  refine pe_iconstv (n := 0) (v := 0) (by decide +kernel) (by decide +kernel) ?_
  refine pe_ialdv (n := 272) (v := 4) (by decide +kernel) y23 (by rw [List.length_set]; exact hyl) (by decide +kernel) (by rw [kc_0]; exact gd_eq (by omega)) ?_
  refine pe_icmp_lt (off := 12) (t := 195) (by decide +kernel) (by decide) rfl (fun _ => ?_) (fun h' => absurd (by decide) h')
  refine pe_aload_n (j := 0) (by decide +kernel) rfl ?_
  refine pe_get (j := 7) (ci := 12) (n := 0) (by decide +kernel) (by decide +kernel) t23.1 rfl ?_
  refine pe_iconstv (n := 3) (v := 3) (by decide +kernel) (by decide +kernel) ?_
  refine pe_ialdv (n := 6760) (v := 0) (by decide +kernel) hx6 hx6l (by decide +kernel) (by rw [kc_3]; exact g63) ?_
  refine pe_if_eq (off := 5) (t := 206) (by decide +kernel) (by decide) rfl (fun _ => ?_) (fun h' => absurd (by decide) h')
  refine pe_iload_n (j := 2) (by decide +kernel) rfl ?_
  refine pe_iconstv (n := (-1)) (v := (-1)) (by decide +kernel) (by decide +kernel) ?_
  refine pe_icmp_ne (off := 12) (t := 220) (by decide +kernel) (by decide) rfl (fun h' => absurd rfl h') (fun _ => ?_)
  refine pe_aload_n (j := 0) (by decide +kernel) rfl ?_
  refine pe_get (j := 7) (ci := 12) (n := 0) (by decide +kernel) (by decide +kernel) t23.1 rfl ?_
  refine pe_iload_n (j := 1) (by decide +kernel) rfl ?_
  refine pe_ialdv (n := 6760) (v := 0) (by decide +kernel) hx6 hx6l (by decide +kernel) (by rw [kc_0]; exact g60) ?_
  refine pe_goto (off := 4) (t := 221) (by decide +kernel) (by decide) rfl ?_
  refine pe_istore_n (j := 3) (ls' := [_, _, _, _, _, _]) (by decide +kernel) (Nat.le_of_ble_eq_true rfl) rfl ?_
  refine pe_iload_n (j := 2) (by decide +kernel) rfl ?_
  refine pe_iconstv (n := (-1)) (v := (-1)) (by decide +kernel) (by decide +kernel) ?_
  refine pe_icmp_ne (off := 13) (t := 237) (by decide +kernel) (by decide) rfl (fun h' => absurd rfl h') (fun _ => ?_)
  refine pe_aload_n (j := 0) (by decide +kernel) rfl ?_
  refine pe_get (j := 7) (ci := 12) (n := 0) (by decide +kernel) (by decide +kernel) t23.1 rfl ?_
  refine pe_iload_n (j := 1) (by decide +kernel) rfl ?_
  refine pe_dup2 (by decide +kernel) ⟨rfl, rfl⟩ ?_
  refine pe_ialdv (n := 6760) (v := 0) (by decide +kernel) hx6 hx6l (by decide +kernel) (by rw [kc_0]; exact g60) ?_
  refine pe_iconstv (n := 1) (v := 1) (by decide +kernel) (by decide +kernel) ?_
  refine pe_iadd (by decide +kernel) ?_
  refine pe_iastK (n := 6760) (by decide +kernel) hx6 hx6l (by decide +kernel) (fun w24 e24 => ?_)
  have t24 : ty_W w24 := e24 ▸ ty_x (ty_of t23) (by rw [List.length_set]; exact hx6l)
  refine pe_iload_n (j := 1) (by decide +kernel) rfl ?_
  refine pe_if_ne (off := 9) (t := 247) (by decide +kernel) (by decide) rfl (fun h' => absurd (by decide) h') (fun _ => ?_)
  refine pe_sipushv (n := 132) (v := 132) (by decide +kernel) (by decide +kernel) ?_
  refine pe_goto (off := 6) (t := 250) (by decide +kernel) (by decide) rfl ?_
  refine pe_istore (j := 4) (ls' := [_, _, _, _, _, _]) (by decide +kernel) (Nat.le_of_ble_eq_true rfl) rfl ?_
  refine pe_iconstv (n := 0) (v := nI 0) (by decide +kernel) (by decide +kernel) ?_
  refine pe_istore (j := 5) (ls' := [_, _, _, _, _, _]) (by decide +kernel) (Nat.le_of_ble_eq_true rfl) rfl ?_
  refine tx_l2_0 ?_ 132 0 w24 rfl t24
  exact fun w9 => k w9
set_option maxRecDepth 100000 in
theorem tx_l2_1 {X : pm_X} {d : Nat} {Q : pm_R → Prop} (k : ∀ w' : pm_W, Q (some (.int 0), w', 0, 0)) : ∀ (m i : Nat) (w : pm_W), m + i = 272 → ty_W w → pmE pg X pg_tyl pg_cl (d + 1) 198 255 [.ref 147, .int 1, .int (-1), .int 0, .int 272, .int (nI i)] [] w Q := by
  intro m
  induction m with
  | zero =>
    intro i w hi h
    have hi : i = 272 := by omega
    subst hi
    refine pe_iload (j := 5) (by decide +kernel) rfl ?_
    refine pe_iload (j := 4) (by decide +kernel) rfl ?_
    refine pe_icmp_ge (off := 29) (t := 288) (by decide +kernel) (by decide) rfl (fun _ => ?_) (fun h' => absurd (by decide +kernel) h')
    refine pe_iload_n (j := 3) (by decide +kernel) rfl ?_
    exact pe_iret (by decide +kernel) rfl rfl (k w)
  | succ m ih =>
    intro i w hi h
    obtain ⟨h0, ⟨xs, hx, hxl⟩, ys, hy, hyl⟩ := id h
    refine pe_iload (j := 5) (by decide +kernel) rfl ?_
    refine pe_iload (j := 4) (by decide +kernel) rfl ?_
    refine pe_icmp_ge (off := 29) (t := 288) (by decide +kernel) (by decide) rfl (fun h' => absurd h' (nI_ge (b := 272) (by omega) (by decide))) (fun _ => ?_)
    refine pe_aload_n (j := 0) (by decide +kernel) rfl ?_
    refine pe_get (j := 7) (ci := 12) (n := 0) (by decide +kernel) (by decide +kernel) h0 rfl ?_
    refine pe_iload_n (j := 1) (by decide +kernel) rfl ?_
    refine pe_iload_n (j := 3) (by decide +kernel) rfl ?_
    refine pe_callS (j := 163) (mj := 217) (by decide +kernel) (by decide +kernel) rfl ?_
    refine pe_iload_n (j := 0) (by decide +kernel) rfl ?_
    refine pe_if_ne (off := 15) (t := 16) (by decide +kernel) (by decide) rfl (fun _ => ?_) (fun h' => absurd (by decide +kernel) h')
    refine pe_sipushv (n := 874) (v := 874) (by decide +kernel) (by decide +kernel) ?_
    refine pe_sipushv (n := 272) (v := 272) (by decide +kernel) (by decide +kernel) ?_
    refine pe_iload_n (j := 1) (by decide +kernel) rfl ?_
    refine pe_imul (by decide +kernel) ?_
    refine pe_iadd (by decide +kernel) ?_
    refine pe_top (v := nI 874) (by decide +kernel) ?_
    refine pe_iret (by decide +kernel) rfl rfl ?_
    show pmE pg _ pg_tyl pg_cl _ 198 271 _ _ _ _
    refine pe_iload (j := 5) (by decide +kernel) rfl ?_
    refine pe_iadd (by decide +kernel) ?_
    refine pe_top (v := nI (874 + i)) (nI_add 874 i) ?_
    refine pe_aload_n (j := 0) (by decide +kernel) rfl ?_
    refine pe_get (j := 17) (ci := 12) (n := 10) (by decide +kernel) (by decide +kernel) h0 rfl ?_
    refine pe_iload (j := 5) (by decide +kernel) rfl ?_
    refine pe_iald (by decide +kernel) hy (by rw [hyl]; exact vp_in_nI (by omega) (by decide)) ?_
    refine pe_iastK (n := 6760) (by decide +kernel) hx hxl (pm_in_of (vp_in_nI (by omega) (by decide))) (fun w2 e2 => ?_)
    have h2 : ty_W w2 := e2 ▸ ty_x h (by rw [List.length_set]; exact hxl)
    refine pe_iincv (j := 5) (n := 1) (v := nI (i + 1)) (ls' := [_, _, _, _, _, _]) (by decide +kernel) rfl (nI_1 i) rfl ?_
    refine pe_goto (off := (-30)) (t := 255) (by decide +kernel) (by decide) rfl ?_
    refine pmE.imp (ih (i + 1) w2 (by omega) h2) (fun q hq => ?_)
    obtain ⟨r, w3, c3, n3⟩ := q
    show Q (r, w3, 0 + c3, 0 + n3)
    rw [Nat.zero_add, Nat.zero_add]
    exact hq
set_option maxRecDepth 100000 in
theorem tx_s1 {X : pm_X} {d : Nat} {w : pm_W} {Q : pm_R → Prop} (h : tx_W w) (k : ∀ w' : pm_W, Q (some (.int 0), w', 0, 0)) : pmE pg X pg_tyl pg_cl (d + 2) 198 0 (pm_ent (pm_max pg 198) [.ref 147, .int 1, .int (-1)]) [] w Q := by
  show pmE pg X pg_tyl pg_cl (d + 2) 198 0 [.ref 147, .int 1, .int (-1), pm_dead, pm_dead, pm_dead] [] w Q
  obtain ⟨xs, hx, hxl, g0, g1, g2, g3⟩ := h.2.1
  refine pe_aload_n (j := 0) (by decide +kernel) rfl ?_
  refine pe_aload_n (j := 0) (by decide +kernel) rfl ?_
  refine pe_get (j := 7) (ci := 12) (n := 0) (by decide +kernel) (by decide +kernel) h.1 rfl ?_
  refine pe_iconstv (n := 2) (v := 2) (by decide +kernel) (by decide +kernel) ?_
  refine pe_ialdv (n := 6760) (v := 0) (by decide +kernel) hx hxl (by decide +kernel) (by rw [k2_cl]; exact g2) ?_
  refine pe_putK (j := 75) (ci := 12) (n := 2) (ty := .int) (by decide +kernel) (by decide +kernel) h.1 (Nat.le_of_ble_eq_true rfl) (pm_fit_int _) (fun w1 e1 => ?_)
  have t1 : tx_W w1 := e1 ▸ tx_put h rfl
  obtain ⟨xs2, hx2, hx2l, g20, g21, g22, g23⟩ := t1.2.1
  refine pe_aload_n (j := 0) (by decide +kernel) rfl ?_
  refine pe_get (j := 7) (ci := 12) (n := 0) (by decide +kernel) (by decide +kernel) t1.1 rfl ?_
  refine pe_iconstv (n := 2) (v := 2) (by decide +kernel) (by decide +kernel) ?_
  refine pe_iconstv (n := 0) (v := 0) (by decide +kernel) (by decide +kernel) ?_
  refine pe_iastK (n := 6760) (by decide +kernel) hx2 hx2l (by decide +kernel) (fun w2 e2 => ?_)
  rw [k2_cl] at e2
  have t2 : tx_W w2 := e2 ▸ tx_x t1 (by rw [List.length_set]; exact hx2l) ((gd_ne (by decide)).trans g20) ((gd_ne (by decide)).trans g21) (gd_eq (by omega)) ((gd_ne (by decide)).trans g23)
  obtain ⟨xs3, hx3, hx3l, g30, g31, g32, g33⟩ := t2.2.1
  refine pe_aload_n (j := 0) (by decide +kernel) rfl ?_
  refine pe_get (j := 7) (ci := 12) (n := 0) (by decide +kernel) (by decide +kernel) t2.1 rfl ?_
  refine pe_iconstv (n := 3) (v := 3) (by decide +kernel) (by decide +kernel) ?_
  refine pe_iconstv (n := 0) (v := 0) (by decide +kernel) (by decide +kernel) ?_
  refine pe_iastK (n := 6760) (by decide +kernel) hx3 hx3l (by decide +kernel) (fun w3 e3 => ?_)
  rw [kc_3] at e3
  have t3 : tx_W w3 := e3 ▸ tx_x t2 (by rw [List.length_set]; exact hx3l) ((gd_ne (by decide)).trans g30) ((gd_ne (by decide)).trans g31) ((gd_ne (by decide)).trans g32) (gd_eq (by omega))
  obtain ⟨xs4, hx4, hx4l, g40, g41, g42, g43⟩ := t3.2.1
  refine pe_aload_n (j := 0) (by decide +kernel) rfl ?_
  refine pe_get (j := 7) (ci := 12) (n := 0) (by decide +kernel) (by decide +kernel) t3.1 rfl ?_
  refine pe_iconstv (n := 4) (v := 4) (by decide +kernel) (by decide +kernel) ?_
  refine pe_iconstv (n := (-1)) (v := (-1)) (by decide +kernel) (by decide +kernel) ?_
  refine pe_iastK (n := 6760) (by decide +kernel) hx4 hx4l (by decide +kernel) (fun w4 e4 => ?_)
  rw [kc_4] at e4
  have t4 : tx_W w4 := e4 ▸ tx_x t3 (by rw [List.length_set]; exact hx4l) ((gd_ne (by decide)).trans g40) ((gd_ne (by decide)).trans g41) ((gd_ne (by decide)).trans g42) ((gd_ne (by decide)).trans g43)
  refine pe_iload_n (j := 1) (by decide +kernel) rfl ?_
  refine pe_iconstv (n := 0) (v := 0) (by decide +kernel) (by decide +kernel) ?_
  refine pe_iconstv (n := 1) (v := 1) (by decide +kernel) (by decide +kernel) ?_
  refine pe_callS (j := 119) (mj := 199) (by decide +kernel) (by decide +kernel) rfl ?_
  refine pe_iload_n (j := 0) (by decide +kernel) rfl ?_
  refine pe_iload_n (j := 1) (by decide +kernel) rfl ?_
  refine pe_icmp_lt (off := 12) (t := 14) (by decide +kernel) (by decide) rfl (fun h' => absurd h' (by decide)) (fun _ => ?_)
  refine pe_iload_n (j := 0) (by decide +kernel) rfl ?_
  refine pe_iload_n (j := 2) (by decide +kernel) rfl ?_
  refine pe_icmp_gt (off := 7) (t := 14) (by decide +kernel) (by decide) rfl (fun h' => absurd h' (by decide)) (fun _ => ?_)
  refine pe_iconstv (n := 1) (v := 1) (by decide +kernel) (by decide +kernel) ?_
  refine pe_goto (off := 4) (t := 15) (by decide +kernel) (by decide) rfl ?_
  refine pe_iret (by decide +kernel) rfl rfl ?_
  show pmE pg _ pg_tyl pg_cl _ 198 37 _ _ _ _
  refine pe_if_eq (off := 32) (t := 69) (by decide +kernel) (by decide) rfl (fun h' => absurd h' (by decide)) (fun _ => ?_)
  refine pe_iload_n (j := 2) (by decide +kernel) rfl ?_
  refine pe_iconstv (n := (-1)) (v := (-1)) (by decide +kernel) (by decide +kernel) ?_
  refine pe_icmp_ne (off := 18) (t := 60) (by decide +kernel) (by decide) rfl (fun h' => absurd rfl h') (fun _ => ?_)
  obtain ⟨xs5, hx5, hx5l, g50, g51, g52, g53⟩ := t4.2.1
  refine pe_aload_n (j := 0) (by decide +kernel) rfl ?_
  refine pe_get (j := 7) (ci := 12) (n := 0) (by decide +kernel) (by decide +kernel) t4.1 rfl ?_
  refine pe_iload_n (j := 1) (by decide +kernel) rfl ?_
  refine pe_ialdv (n := 6760) (v := 0) (by decide +kernel) hx5 hx5l (by decide +kernel) (by rw [kc_1]; exact g51) ?_
  refine pe_iload_n (j := 1) (by decide +kernel) rfl ?_
  refine pe_iconstv (n := 2) (v := 2) (by decide +kernel) (by decide +kernel) ?_
  refine pe_iadd (by decide +kernel) ?_
  refine pe_top (v := 3) (by decide +kernel) ?_
  refine pe_icmp_lt (off := 18) (t := 72) (by decide +kernel) (by decide) rfl (fun _ => ?_) (fun h' => absurd (by decide) h')
  refine pe_aload_n (j := 0) (by decide +kernel) rfl ?_
  refine pe_iconstv (n := 0) (v := 0) (by decide +kernel) (by decide +kernel) ?_
  refine pe_putK (j := 83) (ci := 12) (n := 3) (ty := .int) (by decide +kernel) (by decide +kernel) t4.1 (Nat.le_of_ble_eq_true rfl) (pm_fit_int _) (fun w10 e10 => ?_)
  have t10 : tx_W w10 := e10 ▸ tx_put t4 rfl
  refine pe_aload_n (j := 0) (by decide +kernel) rfl ?_
  refine pe_iconstv (n := 0) (v := 0) (by decide +kernel) (by decide +kernel) ?_
  refine pe_putK (j := 112) (ci := 12) (n := 8) (ty := .boolean) (by decide +kernel) (by decide +kernel) t10.1 (Nat.le_of_ble_eq_true rfl) (by decide +kernel) (fun w11 e11 => ?_)
  have t11 : tx_W w11 := e11 ▸ tx_put t10 rfl
  refine pe_aload_n (j := 0) (by decide +kernel) rfl ?_
  refine pe_iconstv (n := 0) (v := 0) (by decide +kernel) (by decide +kernel) ?_
  refine pe_putK (j := 134) (ci := 12) (n := 9) (ty := .int) (by decide +kernel) (by decide +kernel) t11.1 (Nat.le_of_ble_eq_true rfl) (pm_fit_int _) (fun w12 e12 => ?_)
  have t12 : tx_W w12 := e12 ▸ tx_put t11 rfl
  refine pe_iconstv (n := 0) (v := nI 0) (by decide +kernel) (by decide +kernel) ?_
  refine pe_istore_n (j := 3) (ls' := [_, _, _, _, _, _]) (by decide +kernel) (Nat.le_of_ble_eq_true rfl) rfl ?_
  refine tx_l1 272 0 w12 rfl t12 (fun w20 t20 => ?_)
  refine pe_aload_n (j := 0) (by decide +kernel) rfl ?_
  refine pe_get (j := 17) (ci := 12) (n := 10) (by decide +kernel) (by decide +kernel) t20.1 rfl ?_
  refine pe_iconstv (n := 0) (v := 0) (by decide +kernel) (by decide +kernel) ?_
  refine pe_iload_n (j := 1) (by decide +kernel) rfl ?_
  refine pe_if_ne (off := 7) (t := 122) (by decide +kernel) (by decide) rfl (fun _ => ?_) (fun h' => absurd (by decide) h')
  refine pe_iconstv (n := 0) (v := 0) (by decide +kernel) (by decide +kernel) ?_
  obtain ⟨ys, hy, hyl⟩ := t20.2.2.2
  refine pe_iastK (n := 272) (by decide +kernel) hy hyl (by decide +kernel) (fun w21 e21 => ?_)
  rw [kc_0] at e21
  have t21 : tx_W w21 := e21 ▸ tx_y t20 (by rw [List.length_set]; exact hyl)
  have y21 : w21[150]? = some (.inl (0, .inl (ys.set 0 0))) := e21 ▸ wk_eq hy
  refine pe_aload_n (j := 0) (by decide +kernel) rfl ?_
  refine pe_callV (j := 127) (mj := 201) (d' := d + 1) (vs := [.ref 147]) (st' := []) (by decide +kernel) (cll_V (args := []) (n := 0) (by decide +kernel) rfl rfl t21.1 (by decide +kernel) (by decide) (Nat.le_of_ble_eq_true rfl)) ?_
  refine pe_aload_n (j := 0) (by decide +kernel) rfl ?_
  refine pe_aload_n (j := 0) (by decide +kernel) rfl ?_
  refine pe_get (j := 83) (ci := 12) (n := 3) (by decide +kernel) (by decide +kernel) t21.1 rfl ?_
  refine pe_callV (j := 86) (mj := 202) (d' := d) (vs := [.ref 147, .int 0]) (st' := []) (by decide +kernel) (cll_V (args := [.int 0]) (n := 1) (by decide +kernel) rfl rfl t21.1 (by decide +kernel) (Nat.le_of_ble_eq_true rfl) (Nat.le_of_ble_eq_true rfl)) ?_
  refine pe_iload_n (j := 1) (by decide +kernel) rfl ?_
  refine pe_aload_n (j := 0) (by decide +kernel) rfl ?_
  refine pe_get (j := 75) (ci := 12) (n := 2) (by decide +kernel) (by decide +kernel) t21.1 rfl ?_
  refine pe_icmp_ge (off := 15) (t := 20) (by decide +kernel) (by decide) rfl (fun _ => ?_) (fun h' => absurd (by decide) h')
  refine pe_iconstv (n := (-1)) (v := (-1)) (by decide +kernel) (by decide +kernel) ?_
  refine pe_iret (by decide +kernel) rfl rfl ?_
  show pmE pg _ pg_tyl pg_cl _ 201 8 _ _ _ _
  refine pe_bipushv (n := 10) (v := 10) (by decide +kernel) (by decide +kernel) ?_
  refine pe_icmp_eq (off := 16) (t := 26) (by decide +kernel) (by decide) rfl (fun h' => absurd h' (by decide)) (fun _ => ?_)
  refine pe_aload_n (j := 0) (by decide +kernel) rfl ?_
  refine pe_aload_n (j := 0) (by decide +kernel) rfl ?_
  refine pe_get (j := 83) (ci := 12) (n := 3) (by decide +kernel) (by decide +kernel) t21.1 rfl ?_
  refine pe_callV (j := 86) (mj := 202) (d' := d) (vs := [.ref 147, .int 0]) (st' := []) (by decide +kernel) (cll_V (args := [.int 0]) (n := 1) (by decide +kernel) rfl rfl t21.1 (by decide +kernel) (Nat.le_of_ble_eq_true rfl) (Nat.le_of_ble_eq_true rfl)) ?_
  refine pe_iload_n (j := 1) (by decide +kernel) rfl ?_
  refine pe_aload_n (j := 0) (by decide +kernel) rfl ?_
  refine pe_get (j := 75) (ci := 12) (n := 2) (by decide +kernel) (by decide +kernel) t21.1 rfl ?_
  refine pe_icmp_ge (off := 15) (t := 20) (by decide +kernel) (by decide) rfl (fun _ => ?_) (fun h' => absurd (by decide) h')
  refine pe_iconstv (n := (-1)) (v := (-1)) (by decide +kernel) (by decide +kernel) ?_
  refine pe_iret (by decide +kernel) rfl rfl ?_
  show pmE pg _ pg_tyl pg_cl _ 201 21 _ _ _ _
  refine pe_bipushv (n := 32) (v := 32) (by decide +kernel) (by decide +kernel) ?_
  refine pe_icmp_ne (off := 16) (t := 39) (by decide +kernel) (by decide) rfl (fun _ => ?_) (fun h' => absurd (by decide) h')
  refine pe_aload_n (j := 0) (by decide +kernel) rfl ?_
  refine pe_aload_n (j := 0) (by decide +kernel) rfl ?_
  refine pe_get (j := 83) (ci := 12) (n := 3) (by decide +kernel) (by decide +kernel) t21.1 rfl ?_
  refine pe_putK (j := 90) (ci := 12) (n := 4) (ty := .int) (by decide +kernel) (by decide +kernel) t21.1 (Nat.le_of_ble_eq_true rfl) (pm_fit_int _) (fun w22 e22 => ?_)
  have t22 : tx_W w22 := e22 ▸ tx_put t21 rfl
  have y22 : w22[150]? = some (.inl (0, .inl (ys.set 0 0))) := e22 ▸ (wk_ne (by decide)).trans y21
  refine pe_aload_n (j := 0) (by decide +kernel) rfl ?_
  refine pe_aload_n (j := 0) (by decide +kernel) rfl ?_
  refine pe_get (j := 83) (ci := 12) (n := 3) (by decide +kernel) (by decide +kernel) t22.1 rfl ?_
  refine pe_callV (j := 86) (mj := 202) (d' := d) (vs := [.ref 147, .int 0]) (st' := []) (by decide +kernel) (cll_V (args := [.int 0]) (n := 1) (by decide +kernel) rfl rfl t22.1 (by decide +kernel) (Nat.le_of_ble_eq_true rfl) (Nat.le_of_ble_eq_true rfl)) ?_
  refine pe_iload_n (j := 1) (by decide +kernel) rfl ?_
  refine pe_aload_n (j := 0) (by decide +kernel) rfl ?_
  refine pe_get (j := 75) (ci := 12) (n := 2) (by decide +kernel) (by decide +kernel) t22.1 rfl ?_
  refine pe_icmp_ge (off := 15) (t := 20) (by decide +kernel) (by decide) rfl (fun _ => ?_) (fun h' => absurd (by decide) h')
  refine pe_iconstv (n := (-1)) (v := (-1)) (by decide +kernel) (by decide +kernel) ?_
  refine pe_iret (by decide +kernel) rfl rfl ?_
  show pmE pg _ pg_tyl pg_cl _ 201 55 _ _ _ _
  refine pe_istore_n (j := 1) (ls' := [_, _, _]) (by decide +kernel) (Nat.le_of_ble_eq_true rfl) rfl ?_
  refine pe_iload_n (j := 1) (by decide +kernel) rfl ?_
  refine pe_if_ge (off := 11) (t := 68) (by decide +kernel) (by decide) rfl (fun h' => absurd h' (by decide)) (fun _ => ?_)
  refine pe_aload_n (j := 0) (by decide +kernel) rfl ?_
  refine pe_iconstv (n := 0) (v := 0) (by decide +kernel) (by decide +kernel) ?_
  refine pe_putK (j := 93) (ci := 12) (n := 5) (ty := .int) (by decide +kernel) (by decide +kernel) t22.1 (Nat.le_of_ble_eq_true rfl) (pm_fit_int _) (fun w23 e23 => ?_)
  have t23 : tx_W w23 := e23 ▸ tx_put t22 rfl
  have y23 : w23[150]? = some (.inl (0, .inl (ys.set 0 0))) := e23 ▸ (wk_ne (by decide)).trans y22
  refine pe_goto (off := 243) (t := 308) (by decide +kernel) (by decide) rfl ?_
  refine pe_vret (by decide +kernel) rfl ?_
  show pmE pg _ pg_tyl pg_cl _ 198 128 _ _ _ _
  refine pe_aload_n (j := 0) (by decide +kernel) rfl ?_
  refine pe_get (j := 112) (ci := 12) (n := 8) (by decide +kernel) (by decide +kernel) t23.1 rfl ?_
  refine pe_if_ne (off := 28) (t := 160) (by decide +kernel) (by decide) rfl (fun h' => absurd (by decide) h') (fun _ => ?_)
  refine pe_aload_n (j := 0) (by decide +kernel) rfl ?_
  refine pe_get (j := 93) (ci := 12) (n := 5) (by decide +kernel) (by decide +kernel) t23.1 rfl ?_
  refine pe_if_eq (off := 21) (t := 160) (by decide +kernel) (by decide) rfl (fun _ => ?_) (fun h' => absurd (by decide) h')
  obtain ⟨xs6, hx6, hx6l, g60, g61, g62, g63⟩ := t23.2.1
  refine pe_aload_n (j := 0) (by decide +kernel) rfl ?_
  refine pe_get (j := 7) (ci := 12) (n := 0) (by decide +kernel) (by decide +kernel) t23.1 rfl ?_
  refine pe_iconstv (n := 3) (v := 3) (by decide +kernel) (by decide +kernel) ?_
  refine pe_ialdv (n := 6760) (v := 0) (by decide +kernel) hx6 hx6l (by decide +kernel) (by rw [kc_3]; exact g63) ?_
  refine pe_if_ne (off := 29) (t := 195) (by decide +kernel) (by decide) rfl (fun h' => absurd (by decide) h') (fun _ => ?_)
  refine pe_iload_n (j := 1) (by decide +kernel) rfl ?_
  refine pe_if_ne (off := 25) (t := 195) (by decide +kernel) (by decide) rfl (fun _ => ?_) (fun h' => absurd (by decide) h')
  refine pe_aload_n (j := 0) (by decide +kernel) rfl ?_
  refine pe_get (j := 7) (ci := 12) (n := 0) (by decide +kernel) (by decide +kernel) t23.1 rfl ?_
  refine pe_iconstv (n := 3) (v := 3) (by decide +kernel) (by decide +kernel) ?_
  refine pe_ialdv (n := 6760) (v := 0) (by decide +kernel) hx6 hx6l (by decide +kernel) (by rw [kc_3]; exact g63) ?_
  refine pe_if_eq (off := 5) (t := 206) (by decide +kernel) (by decide) rfl (fun _ => ?_) (fun h' => absurd (by decide) h')
  refine pe_iload_n (j := 2) (by decide +kernel) rfl ?_
  refine pe_iconstv (n := (-1)) (v := (-1)) (by decide +kernel) (by decide +kernel) ?_
  refine pe_icmp_ne (off := 12) (t := 220) (by decide +kernel) (by decide) rfl (fun h' => absurd rfl h') (fun _ => ?_)
  refine pe_aload_n (j := 0) (by decide +kernel) rfl ?_
  refine pe_get (j := 7) (ci := 12) (n := 0) (by decide +kernel) (by decide +kernel) t23.1 rfl ?_
  refine pe_iload_n (j := 1) (by decide +kernel) rfl ?_
  refine pe_ialdv (n := 6760) (v := 0) (by decide +kernel) hx6 hx6l (by decide +kernel) (by rw [kc_1]; exact g61) ?_
  refine pe_goto (off := 4) (t := 221) (by decide +kernel) (by decide) rfl ?_
  refine pe_istore_n (j := 3) (ls' := [_, _, _, _, _, _]) (by decide +kernel) (Nat.le_of_ble_eq_true rfl) rfl ?_
  refine pe_iload_n (j := 2) (by decide +kernel) rfl ?_
  refine pe_iconstv (n := (-1)) (v := (-1)) (by decide +kernel) (by decide +kernel) ?_
  refine pe_icmp_ne (off := 13) (t := 237) (by decide +kernel) (by decide) rfl (fun h' => absurd rfl h') (fun _ => ?_)
  refine pe_aload_n (j := 0) (by decide +kernel) rfl ?_
  refine pe_get (j := 7) (ci := 12) (n := 0) (by decide +kernel) (by decide +kernel) t23.1 rfl ?_
  refine pe_iload_n (j := 1) (by decide +kernel) rfl ?_
  refine pe_dup2 (by decide +kernel) ⟨rfl, rfl⟩ ?_
  refine pe_ialdv (n := 6760) (v := 0) (by decide +kernel) hx6 hx6l (by decide +kernel) (by rw [kc_1]; exact g61) ?_
  refine pe_iconstv (n := 1) (v := 1) (by decide +kernel) (by decide +kernel) ?_
  refine pe_iadd (by decide +kernel) ?_
  refine pe_iastK (n := 6760) (by decide +kernel) hx6 hx6l (by decide +kernel) (fun w24 e24 => ?_)
  have t24 : ty_W w24 := e24 ▸ ty_x (ty_of t23) (by rw [List.length_set]; exact hx6l)
  refine pe_iload_n (j := 1) (by decide +kernel) rfl ?_
  refine pe_if_ne (off := 9) (t := 247) (by decide +kernel) (by decide) rfl (fun _ => ?_) (fun h' => absurd (by decide) h')
  refine pe_sipushv (n := 272) (v := 272) (by decide +kernel) (by decide +kernel) ?_
  refine pe_istore (j := 4) (ls' := [_, _, _, _, _, _]) (by decide +kernel) (Nat.le_of_ble_eq_true rfl) rfl ?_
  refine pe_iconstv (n := 0) (v := nI 0) (by decide +kernel) (by decide +kernel) ?_
  refine pe_istore (j := 5) (ls' := [_, _, _, _, _, _]) (by decide +kernel) (Nat.le_of_ble_eq_true rfl) rfl ?_
  refine tx_l2_1 ?_ 272 0 w24 rfl t24
  exact fun w9 => k w9
theorem im_l0 {X : pm_X} {d : Nat} {Q : pm_R → Prop} (k : ∀ w' : pm_W, Q (some (.int 1), w', 0, 0)) : ∀ (m i : Nat) (w : pm_W), m + i = 1690 → ty_W w → pmE pg X pg_tyl pg_cl d 316 20 [.ref 147, .int 0, .int (nI i)] [] w Q := by
  intro m
  induction m with
  | zero =>
    intro i w hi h
    have hi : i = 1690 := by omega
    subst hi
    refine pe_iload_n (j := 2) (by decide +kernel) rfl ?_
    refine pe_sipushv (n := 1690) (v := 1690) (by decide +kernel) (by decide +kernel) ?_
    refine pe_icmp_ge (off := 29) (t := 53) (by decide +kernel) (by decide) rfl (fun _ => ?_) (fun h' => absurd (by decide +kernel) h')
    refine pe_iconstv (n := 1) (v := 1) (by decide +kernel) (by decide +kernel) ?_
    exact pe_iret (by decide +kernel) rfl rfl (k w)
  | succ m ih =>
    intro i w hi h
    obtain ⟨h0, ⟨xs, hx, hxl⟩, ys, hy, hyl⟩ := id h
    refine pe_iload_n (j := 2) (by decide +kernel) rfl ?_
    refine pe_sipushv (n := 1690) (v := nI 1690) (by decide +kernel) (by decide +kernel) ?_
    refine pe_icmp_ge (off := 29) (t := 53) (by decide +kernel) (by decide) rfl (fun h' => absurd h' (nI_ge (by omega) (by decide))) (fun _ => ?_)
    refine pe_aload_n (j := 0) (by decide +kernel) rfl ?_
    refine pe_get (j := 7) (ci := 12) (n := 0) (by decide +kernel) (by decide +kernel) h0 rfl ?_
    refine pe_sipushv (n := 1690) (v := 1690) (by decide +kernel) (by decide +kernel) ?_
    refine pe_iload_n (j := 1) (by decide +kernel) rfl ?_
    refine pe_iconstv (n := 1) (v := 1) (by decide +kernel) (by decide +kernel) ?_
    refine pe_iadd (by decide +kernel) ?_
    refine pe_imul (by decide +kernel) ?_
    refine pe_top (v := nI 1690) (by decide +kernel) ?_
    refine pe_iload_n (j := 2) (by decide +kernel) rfl ?_
    refine pe_iadd (by decide +kernel) ?_
    refine pe_top (v := nI (1690 + i)) (nI_add 1690 i) ?_
    refine pe_aload_n (j := 0) (by decide +kernel) rfl ?_
    refine pe_get (j := 7) (ci := 12) (n := 0) (by decide +kernel) (by decide +kernel) h0 rfl ?_
    refine pe_iload_n (j := 2) (by decide +kernel) rfl ?_
    refine pe_iald (by decide +kernel) hx (by rw [hxl]; exact vp_in_nI (by omega) (by decide)) ?_
    refine pe_iastK (n := 6760) (by decide +kernel) hx hxl (pm_in_of (vp_in_nI (by omega) (by decide))) (fun w2 e2 => ?_)
    have h2 : ty_W w2 := e2 ▸ ty_x h (by rw [List.length_set]; exact hxl)
    refine pe_iincv (j := 2) (n := 1) (v := nI (i + 1)) (ls' := [_, _, _]) (by decide +kernel) rfl (nI_1 i) rfl ?_
    refine pe_goto (off := (-30)) (t := 20) (by decide +kernel) (by decide) rfl ?_
    exact ih (i + 1) w2 (by omega) h2
theorem im_s0 {X : pm_X} {d : Nat} {w : pm_W} {Q : pm_R → Prop} (h : tx_W w) (k : ∀ w' : pm_W, Q (some (.int 1), w', 0, 0)) : pmE pg X pg_tyl pg_cl (d + 1) 316 0 (pm_ent (pm_max pg 316) [.ref 147, .int 0]) [] w Q := by
  show pmE pg X pg_tyl pg_cl (d + 1) 316 0 [.ref 147, .int 0, pm_dead] [] w Q
  obtain ⟨zs, hz, hzl⟩ := h.2.2.1
  refine pe_iload_n (j := 1) (by decide +kernel) rfl ?_
  refine pe_iconstv (n := 0) (v := 0) (by decide +kernel) (by decide +kernel) ?_
  refine pe_iconstv (n := 2) (v := 2) (by decide +kernel) (by decide +kernel) ?_
  refine pe_callS (j := 119) (mj := 199) (by decide +kernel) (by decide +kernel) rfl ?_
  refine pe_iload_n (j := 0) (by decide +kernel) rfl ?_
  refine pe_iload_n (j := 1) (by decide +kernel) rfl ?_
  refine pe_icmp_lt (off := 12) (t := 14) (by decide +kernel) (by decide) rfl (fun h' => absurd h' (by decide)) (fun _ => ?_)
  refine pe_iload_n (j := 0) (by decide +kernel) rfl ?_
  refine pe_iload_n (j := 2) (by decide +kernel) rfl ?_
  refine pe_icmp_gt (off := 7) (t := 14) (by decide +kernel) (by decide) rfl (fun h' => absurd h' (by decide)) (fun _ => ?_)
  refine pe_iconstv (n := 1) (v := 1) (by decide +kernel) (by decide +kernel) ?_
  refine pe_goto (off := 4) (t := 15) (by decide +kernel) (by decide) rfl ?_
  refine pe_iret (by decide +kernel) rfl rfl ?_
  show pmE pg _ pg_tyl pg_cl _ 316 6 _ _ _ _
  refine pe_if_ne (off := 5) (t := 11) (by decide +kernel) (by decide) rfl (fun _ => ?_) (fun h' => absurd (by decide) h')
  refine pe_aload_n (j := 0) (by decide +kernel) rfl ?_
  refine pe_get (j := 13) (ci := 12) (n := 1) (by decide +kernel) (by decide +kernel) h.1 rfl ?_
  refine pe_iload_n (j := 1) (by decide +kernel) rfl ?_
  refine pe_iconstv (n := 1) (v := 1) (by decide +kernel) (by decide +kernel) ?_
  refine pe_zastK (n := 3) (by decide +kernel) hz hzl (by decide +kernel) (fun w2 e2 => ?_)
  have h2 : tx_W w2 := e2 ▸ tx_z h (by rw [List.length_set]; exact hzl)
  refine pe_iconstv (n := 0) (v := nI 0) (by decide +kernel) (by decide +kernel) ?_
  refine pe_istore_n (j := 2) (ls' := [_, _, _]) (by decide +kernel) (Nat.le_of_ble_eq_true rfl) rfl ?_
  refine im_l0 ?_ 1690 0 w2 rfl (ty_of h2)
  exact fun w9 => k w9
theorem im_l1 {X : pm_X} {d : Nat} {Q : pm_R → Prop} (k : ∀ w' : pm_W, Q (some (.int 1), w', 0, 0)) : ∀ (m i : Nat) (w : pm_W), m + i = 1690 → ty_W w → pmE pg X pg_tyl pg_cl d 316 20 [.ref 147, .int 1, .int (nI i)] [] w Q := by
  intro m
  induction m with
  | zero =>
    intro i w hi h
    have hi : i = 1690 := by omega
    subst hi
    refine pe_iload_n (j := 2) (by decide +kernel) rfl ?_
    refine pe_sipushv (n := 1690) (v := 1690) (by decide +kernel) (by decide +kernel) ?_
    refine pe_icmp_ge (off := 29) (t := 53) (by decide +kernel) (by decide) rfl (fun _ => ?_) (fun h' => absurd (by decide +kernel) h')
    refine pe_iconstv (n := 1) (v := 1) (by decide +kernel) (by decide +kernel) ?_
    exact pe_iret (by decide +kernel) rfl rfl (k w)
  | succ m ih =>
    intro i w hi h
    obtain ⟨h0, ⟨xs, hx, hxl⟩, ys, hy, hyl⟩ := id h
    refine pe_iload_n (j := 2) (by decide +kernel) rfl ?_
    refine pe_sipushv (n := 1690) (v := nI 1690) (by decide +kernel) (by decide +kernel) ?_
    refine pe_icmp_ge (off := 29) (t := 53) (by decide +kernel) (by decide) rfl (fun h' => absurd h' (nI_ge (by omega) (by decide))) (fun _ => ?_)
    refine pe_aload_n (j := 0) (by decide +kernel) rfl ?_
    refine pe_get (j := 7) (ci := 12) (n := 0) (by decide +kernel) (by decide +kernel) h0 rfl ?_
    refine pe_sipushv (n := 1690) (v := 1690) (by decide +kernel) (by decide +kernel) ?_
    refine pe_iload_n (j := 1) (by decide +kernel) rfl ?_
    refine pe_iconstv (n := 1) (v := 1) (by decide +kernel) (by decide +kernel) ?_
    refine pe_iadd (by decide +kernel) ?_
    refine pe_imul (by decide +kernel) ?_
    refine pe_top (v := nI 3380) (by decide +kernel) ?_
    refine pe_iload_n (j := 2) (by decide +kernel) rfl ?_
    refine pe_iadd (by decide +kernel) ?_
    refine pe_top (v := nI (3380 + i)) (nI_add 3380 i) ?_
    refine pe_aload_n (j := 0) (by decide +kernel) rfl ?_
    refine pe_get (j := 7) (ci := 12) (n := 0) (by decide +kernel) (by decide +kernel) h0 rfl ?_
    refine pe_iload_n (j := 2) (by decide +kernel) rfl ?_
    refine pe_iald (by decide +kernel) hx (by rw [hxl]; exact vp_in_nI (by omega) (by decide)) ?_
    refine pe_iastK (n := 6760) (by decide +kernel) hx hxl (pm_in_of (vp_in_nI (by omega) (by decide))) (fun w2 e2 => ?_)
    have h2 : ty_W w2 := e2 ▸ ty_x h (by rw [List.length_set]; exact hxl)
    refine pe_iincv (j := 2) (n := 1) (v := nI (i + 1)) (ls' := [_, _, _]) (by decide +kernel) rfl (nI_1 i) rfl ?_
    refine pe_goto (off := (-30)) (t := 20) (by decide +kernel) (by decide) rfl ?_
    exact ih (i + 1) w2 (by omega) h2
theorem im_s1 {X : pm_X} {d : Nat} {w : pm_W} {Q : pm_R → Prop} (h : tx_W w) (k : ∀ w' : pm_W, Q (some (.int 1), w', 0, 0)) : pmE pg X pg_tyl pg_cl (d + 1) 316 0 (pm_ent (pm_max pg 316) [.ref 147, .int 1]) [] w Q := by
  show pmE pg X pg_tyl pg_cl (d + 1) 316 0 [.ref 147, .int 1, pm_dead] [] w Q
  obtain ⟨zs, hz, hzl⟩ := h.2.2.1
  refine pe_iload_n (j := 1) (by decide +kernel) rfl ?_
  refine pe_iconstv (n := 0) (v := 0) (by decide +kernel) (by decide +kernel) ?_
  refine pe_iconstv (n := 2) (v := 2) (by decide +kernel) (by decide +kernel) ?_
  refine pe_callS (j := 119) (mj := 199) (by decide +kernel) (by decide +kernel) rfl ?_
  refine pe_iload_n (j := 0) (by decide +kernel) rfl ?_
  refine pe_iload_n (j := 1) (by decide +kernel) rfl ?_
  refine pe_icmp_lt (off := 12) (t := 14) (by decide +kernel) (by decide) rfl (fun h' => absurd h' (by decide)) (fun _ => ?_)
  refine pe_iload_n (j := 0) (by decide +kernel) rfl ?_
  refine pe_iload_n (j := 2) (by decide +kernel) rfl ?_
  refine pe_icmp_gt (off := 7) (t := 14) (by decide +kernel) (by decide) rfl (fun h' => absurd h' (by decide)) (fun _ => ?_)
  refine pe_iconstv (n := 1) (v := 1) (by decide +kernel) (by decide +kernel) ?_
  refine pe_goto (off := 4) (t := 15) (by decide +kernel) (by decide) rfl ?_
  refine pe_iret (by decide +kernel) rfl rfl ?_
  show pmE pg _ pg_tyl pg_cl _ 316 6 _ _ _ _
  refine pe_if_ne (off := 5) (t := 11) (by decide +kernel) (by decide) rfl (fun _ => ?_) (fun h' => absurd (by decide) h')
  refine pe_aload_n (j := 0) (by decide +kernel) rfl ?_
  refine pe_get (j := 13) (ci := 12) (n := 1) (by decide +kernel) (by decide +kernel) h.1 rfl ?_
  refine pe_iload_n (j := 1) (by decide +kernel) rfl ?_
  refine pe_iconstv (n := 1) (v := 1) (by decide +kernel) (by decide +kernel) ?_
  refine pe_zastK (n := 3) (by decide +kernel) hz hzl (by decide +kernel) (fun w2 e2 => ?_)
  have h2 : tx_W w2 := e2 ▸ tx_z h (by rw [List.length_set]; exact hzl)
  refine pe_iconstv (n := 0) (v := nI 0) (by decide +kernel) (by decide +kernel) ?_
  refine pe_istore_n (j := 2) (ls' := [_, _, _]) (by decide +kernel) (Nat.le_of_ble_eq_true rfl) rfl ?_
  refine im_l1 ?_ 1690 0 w2 rfl (ty_of h2)
  exact fun w9 => k w9
theorem im_l2 {X : pm_X} {d : Nat} {Q : pm_R → Prop} (k : ∀ w' : pm_W, Q (some (.int 1), w', 0, 0)) : ∀ (m i : Nat) (w : pm_W), m + i = 1690 → ty_W w → pmE pg X pg_tyl pg_cl d 316 20 [.ref 147, .int 2, .int (nI i)] [] w Q := by
  intro m
  induction m with
  | zero =>
    intro i w hi h
    have hi : i = 1690 := by omega
    subst hi
    refine pe_iload_n (j := 2) (by decide +kernel) rfl ?_
    refine pe_sipushv (n := 1690) (v := 1690) (by decide +kernel) (by decide +kernel) ?_
    refine pe_icmp_ge (off := 29) (t := 53) (by decide +kernel) (by decide) rfl (fun _ => ?_) (fun h' => absurd (by decide +kernel) h')
    refine pe_iconstv (n := 1) (v := 1) (by decide +kernel) (by decide +kernel) ?_
    exact pe_iret (by decide +kernel) rfl rfl (k w)
  | succ m ih =>
    intro i w hi h
    obtain ⟨h0, ⟨xs, hx, hxl⟩, ys, hy, hyl⟩ := id h
    refine pe_iload_n (j := 2) (by decide +kernel) rfl ?_
    refine pe_sipushv (n := 1690) (v := nI 1690) (by decide +kernel) (by decide +kernel) ?_
    refine pe_icmp_ge (off := 29) (t := 53) (by decide +kernel) (by decide) rfl (fun h' => absurd h' (nI_ge (by omega) (by decide))) (fun _ => ?_)
    refine pe_aload_n (j := 0) (by decide +kernel) rfl ?_
    refine pe_get (j := 7) (ci := 12) (n := 0) (by decide +kernel) (by decide +kernel) h0 rfl ?_
    refine pe_sipushv (n := 1690) (v := 1690) (by decide +kernel) (by decide +kernel) ?_
    refine pe_iload_n (j := 1) (by decide +kernel) rfl ?_
    refine pe_iconstv (n := 1) (v := 1) (by decide +kernel) (by decide +kernel) ?_
    refine pe_iadd (by decide +kernel) ?_
    refine pe_imul (by decide +kernel) ?_
    refine pe_top (v := nI 5070) (by decide +kernel) ?_
    refine pe_iload_n (j := 2) (by decide +kernel) rfl ?_
    refine pe_iadd (by decide +kernel) ?_
    refine pe_top (v := nI (5070 + i)) (nI_add 5070 i) ?_
    refine pe_aload_n (j := 0) (by decide +kernel) rfl ?_
    refine pe_get (j := 7) (ci := 12) (n := 0) (by decide +kernel) (by decide +kernel) h0 rfl ?_
    refine pe_iload_n (j := 2) (by decide +kernel) rfl ?_
    refine pe_iald (by decide +kernel) hx (by rw [hxl]; exact vp_in_nI (by omega) (by decide)) ?_
    refine pe_iastK (n := 6760) (by decide +kernel) hx hxl (pm_in_of (vp_in_nI (by omega) (by decide))) (fun w2 e2 => ?_)
    have h2 : ty_W w2 := e2 ▸ ty_x h (by rw [List.length_set]; exact hxl)
    refine pe_iincv (j := 2) (n := 1) (v := nI (i + 1)) (ls' := [_, _, _]) (by decide +kernel) rfl (nI_1 i) rfl ?_
    refine pe_goto (off := (-30)) (t := 20) (by decide +kernel) (by decide) rfl ?_
    exact ih (i + 1) w2 (by omega) h2
theorem im_s2 {X : pm_X} {d : Nat} {w : pm_W} {Q : pm_R → Prop} (h : tx_W w) (k : ∀ w' : pm_W, Q (some (.int 1), w', 0, 0)) : pmE pg X pg_tyl pg_cl (d + 1) 316 0 (pm_ent (pm_max pg 316) [.ref 147, .int 2]) [] w Q := by
  show pmE pg X pg_tyl pg_cl (d + 1) 316 0 [.ref 147, .int 2, pm_dead] [] w Q
  obtain ⟨zs, hz, hzl⟩ := h.2.2.1
  refine pe_iload_n (j := 1) (by decide +kernel) rfl ?_
  refine pe_iconstv (n := 0) (v := 0) (by decide +kernel) (by decide +kernel) ?_
  refine pe_iconstv (n := 2) (v := 2) (by decide +kernel) (by decide +kernel) ?_
  refine pe_callS (j := 119) (mj := 199) (by decide +kernel) (by decide +kernel) rfl ?_
  refine pe_iload_n (j := 0) (by decide +kernel) rfl ?_
  refine pe_iload_n (j := 1) (by decide +kernel) rfl ?_
  refine pe_icmp_lt (off := 12) (t := 14) (by decide +kernel) (by decide) rfl (fun h' => absurd h' (by decide)) (fun _ => ?_)
  refine pe_iload_n (j := 0) (by decide +kernel) rfl ?_
  refine pe_iload_n (j := 2) (by decide +kernel) rfl ?_
  refine pe_icmp_gt (off := 7) (t := 14) (by decide +kernel) (by decide) rfl (fun h' => absurd h' (by decide)) (fun _ => ?_)
  refine pe_iconstv (n := 1) (v := 1) (by decide +kernel) (by decide +kernel) ?_
  refine pe_goto (off := 4) (t := 15) (by decide +kernel) (by decide) rfl ?_
  refine pe_iret (by decide +kernel) rfl rfl ?_
  show pmE pg _ pg_tyl pg_cl _ 316 6 _ _ _ _
  refine pe_if_ne (off := 5) (t := 11) (by decide +kernel) (by decide) rfl (fun _ => ?_) (fun h' => absurd (by decide) h')
  refine pe_aload_n (j := 0) (by decide +kernel) rfl ?_
  refine pe_get (j := 13) (ci := 12) (n := 1) (by decide +kernel) (by decide +kernel) h.1 rfl ?_
  refine pe_iload_n (j := 1) (by decide +kernel) rfl ?_
  refine pe_iconstv (n := 1) (v := 1) (by decide +kernel) (by decide +kernel) ?_
  refine pe_zastK (n := 3) (by decide +kernel) hz hzl (by decide +kernel) (fun w2 e2 => ?_)
  have h2 : tx_W w2 := e2 ▸ tx_z h (by rw [List.length_set]; exact hzl)
  refine pe_iconstv (n := 0) (v := nI 0) (by decide +kernel) (by decide +kernel) ?_
  refine pe_istore_n (j := 2) (ls' := [_, _, _]) (by decide +kernel) (Nat.le_of_ble_eq_true rfl) rfl ?_
  refine im_l2 ?_ 1690 0 w2 rfl (ty_of h2)
  exact fun w9 => k w9
set_option maxRecDepth 1000000 in
theorem tx_on {w1 : pm_W} (h : w1.drop 147 = fw_2) : tx_W w1 := by
  have g : ∀ i : Nat, w1[147 + i]? = fw_2[i]? := fun i => by rw [← h, List.getElem?_drop]
  exact ⟨(g 0).trans rfl, ⟨_, (g 1).trans rfl, rfl, rfl, rfl, rfl, rfl⟩, ⟨_, (g 2).trans rfl, rfl⟩, _, (g 3).trans rfl, rfl⟩
