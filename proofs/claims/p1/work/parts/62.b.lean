/-! ===== feed() on fresh objects ===== -/
def fd_f (n : Int32) : List Value := [.ref 2, .ref 3, .int 0, .int 0, .ref 4, .int n, .int 0, .int (-1)]
/-- what feed() of both sides needs of the world: n bytes lie on the class's tape, none on the reference's -/
def fd_W (n : Nat) (w : pm_W) : Prop := w[0]? = fw_0[0]? ∧ w[1]? = some (.inr (8, fd_f (nI n))) ∧ (∃ bs : List Int32, w[4]? = some (.inl (1, .inl bs)) ∧ bs.length = 600) ∧ w[147]? = fw_0[147]? ∧ w[148]? = fw_0[148]?
theorem fd_put {n : Nat} {w : pm_W} {bs' : List Int32} (h : fd_W n w) (hb : bs'.length = 600) : fd_W n (w.set 4 (.inl (1, .inl bs'))) := by
  obtain ⟨h0, h1, ⟨bs, hb1, hb2⟩, h2, h3⟩ := h
  exact ⟨(wk_ne (by decide)).trans h0, (wk_ne (by decide)).trans h1, ⟨bs', wk_eq hb1, hb⟩, (wk_ne (by decide)).trans h2, (wk_ne (by decide)).trans h3⟩
theorem fd_inc {n : Nat} {w : pm_W} (h : fd_W n w) : fd_W (n + 1) (w.set 1 (.inr (8, (fd_f (nI n)).set 5 (.int (nI n + 1))))) := by
  obtain ⟨h0, h1, ⟨bs, hb1, hb2⟩, h2, h3⟩ := h
  refine ⟨(wk_ne (by decide)).trans h0, ?_, ⟨bs, (wk_ne (by decide)).trans hb1, hb2⟩, (wk_ne (by decide)).trans h2, (wk_ne (by decide)).trans h3⟩
  rw [wk_eq h1, nI_succ]
  rfl
theorem pn_it {X : pm_X} {d : Nat} {x s : Int32} {n : Nat} {w : pm_W} {Q : pm_R → Prop} (hs : ¬ s < 0) (hn : n < 600) (h : fd_W n w) (k : ∀ w' : pm_W, fd_W (n + 1) w' → pmE pg X pg_tyl pg_cl d 14 3 [.ref 1, .int x, .int (s + Int32.ofInt (-8))] [] w' Q) : pmE pg X pg_tyl pg_cl d 14 3 [.ref 1, .int x, .int s] [] w Q := by
  obtain ⟨bs, hb, hl⟩ := h.2.2.1
  refine pe_iload_n (j := 2) (by decide +kernel) rfl ?_
  refine pe_if_lt (off := 42) (t := 46) (by decide +kernel) (by decide) rfl (fun h' => absurd h' hs) (fun _ => ?_)
  refine pe_aload_n (j := 0) (by decide +kernel) rfl ?_
  refine pe_get (j := 46) (ci := 8) (n := 5) (by decide +kernel) (by decide +kernel) h.2.1 rfl ?_
  refine pe_sipushv (n := 600) (v := nI 600) (by decide +kernel) (by decide +kernel) ?_
  refine pe_icmp_ge (off := 32) (t := 46) (by decide +kernel) (by decide) rfl (fun h' => absurd h' (nI_ge hn (by decide))) (fun _ => ?_)
  refine pe_aload_n (j := 0) (by decide +kernel) rfl ?_
  refine pe_get (j := 23) (ci := 8) (n := 4) (by decide +kernel) (by decide +kernel) h.2.1 rfl ?_
  refine pe_aload_n (j := 0) (by decide +kernel) rfl ?_
  refine pe_get (j := 46) (ci := 8) (n := 5) (by decide +kernel) (by decide +kernel) h.2.1 rfl ?_
  refine pe_iload_n (j := 1) (by decide +kernel) rfl ?_
  refine pe_iload_n (j := 2) (by decide +kernel) rfl ?_
  refine pe_ishr (by decide +kernel) ?_
  refine pe_i2b (by decide +kernel) ?_
  refine pe_bastK (n := 600) (by decide +kernel) hb hl (pm_in_of (vp_in_nI hn (by decide))) (fun w2 e2 => ?_)
  have h2 : fd_W n w2 := e2 ▸ fd_put h (by rw [List.length_set]; exact hl)
  refine pe_aload_n (j := 0) (by decide +kernel) rfl ?_
  refine pe_dup (by decide +kernel) rfl ?_
  refine pe_get (j := 46) (ci := 8) (n := 5) (by decide +kernel) (by decide +kernel) h2.2.1 rfl ?_
  refine pe_iconstv (n := 1) (v := 1) (by decide +kernel) (by decide +kernel) ?_
  refine pe_iadd (by decide +kernel) ?_
  refine pe_putK (j := 46) (ci := 8) (n := 5) (ty := .int) (by decide +kernel) (by decide +kernel) h2.2.1 (Nat.le_of_ble_eq_true rfl) (pm_fit_int _) (fun w3 e3 => ?_)
  have h3 : fd_W (n + 1) w3 := e3 ▸ fd_inc h2
  refine pe_iinc (j := 2) (n := (-8)) (ls' := [_, _, _]) (by decide +kernel) rfl rfl ?_
  refine pe_goto (off := (-40)) (t := 3) (by decide +kernel) (by decide) rfl ?_
  exact k w3 h3
theorem pn_all {X : pm_X} {d : Nat} {x : Int32} {n : Nat} {w : pm_W} {Q : pm_R → Prop} (hn : n + 4 ≤ 600) (h : fd_W n w) (k : ∀ w' : pm_W, fd_W (n + 4) w' → Q (none, w', 0, 0)) : pmE pg X pg_tyl pg_cl d 14 0 (pm_ent (pm_max pg 14) [.ref 1, .int x]) [] w Q := by
  show pmE pg X pg_tyl pg_cl d 14 0 [.ref 1, .int x, pm_dead] [] w Q
  refine pe_bipushv (n := 24) (v := 24) (by decide +kernel) (by decide +kernel) ?_
  refine pe_istore_n (j := 2) (ls' := [_, _, _]) (by decide +kernel) (Nat.le_of_ble_eq_true rfl) rfl ?_
  refine pn_it (by decide +kernel) (by omega) h (fun w1 h1 => ?_)
  refine pn_it (by decide +kernel) (by omega) h1 (fun w2 h2 => ?_)
  refine pn_it (by decide +kernel) (by omega) h2 (fun w3 h3 => ?_)
  refine pn_it (by decide +kernel) (by omega) h3 (fun w4 h4 => ?_)
  refine pe_iload_n (j := 2) (by decide +kernel) rfl ?_
  refine pe_if_lt (off := 42) (t := 46) (by decide +kernel) (by decide) rfl (fun _ => ?_) (fun h' => absurd (by decide +kernel) h')
  exact pe_vret (by decide +kernel) rfl (k w4 h4)
theorem pn_call {X : pm_X} {d pc : Nat} {x : Int32} {n : Nat} {w : pm_W} {ls : List Value} {Q : pm_R → Prop} (hd : pm_dec pg 13 pc = some (.invokevirtual 81)) (hn : n + 4 ≤ 600) (h : fd_W n w) (k : ∀ w' : pm_W, fd_W (n + 4) w' → pmE pg X pg_tyl pg_cl (d + 1) 13 (pc + 3) ls [] w' Q) : pmE pg X pg_tyl pg_cl (d + 1) 13 pc ls [.int x, .ref 1] w Q := by
  refine pe_callV (j := 81) (mj := 14) (d' := d) (vs := [.ref 1, .int x]) (st' := []) hd (cll_V (args := [.int x]) (n := 1) (by decide +kernel) rfl rfl h.2.1 (by decide +kernel) (by decide) (Nat.le_of_ble_eq_true rfl)) ?_
  refine pn_all hn h (fun w' h' => ?_)
  refine pmE.imp (k w' h') (fun q hq => ?_)
  obtain ⟨r, w2, c, m⟩ := q
  show Q (r, w2, 0 + c, 0 + m)
  rw [Nat.zero_add, Nat.zero_add]
  exact hq
theorem fd_cls {X : pm_X} {d : Nat} {x1 x2 x3 x4 x5 : Int32} {w : pm_W} {Q : pm_R → Prop} (h : fd_W 0 w) (k : ∀ w' : pm_W, fd_W 20 w' → Q (some (.int 20), w', 0, 0)) : pmE pg X pg_tyl pg_cl (d + 1) 13 0 (pm_ent (pm_max pg 13) [.ref 0, .int x1, .int x2, .int x3, .int x4, .int x5]) [] w Q := by
  show pmE pg X pg_tyl pg_cl (d + 1) 13 0 [.ref 0, .int x1, .int x2, .int x3, .int x4, .int x5] [] w Q
  refine pe_aload_n (j := 0) (by decide +kernel) rfl ?_
  refine pe_get (j := 12) (ci := 11) (n := 0) (by decide +kernel) (by decide +kernel) (h.1.trans rfl) rfl ?_
  refine pe_get (j := 77) (ci := 8) (n := 5) (by decide +kernel) (by decide +kernel) h.2.1 rfl ?_
  refine pe_bipushv (n := 20) (v := 20) (by decide +kernel) (by decide +kernel) ?_
  refine pe_iadd (by decide +kernel) ?_
  refine pe_sipushv (n := 600) (v := 600) (by decide +kernel) (by decide +kernel) ?_
  refine pe_icmp_le (off := 5) (t := 18) (by decide +kernel) (by decide) rfl (fun _ => ?_) (fun h' => absurd (by decide +kernel) h')
  refine pe_aload_n (j := 0) (by decide +kernel) rfl ?_
  refine pe_get (j := 12) (ci := 11) (n := 0) (by decide +kernel) (by decide +kernel) (h.1.trans rfl) rfl ?_
  refine pe_iload_n (j := 1) (by decide +kernel) rfl ?_
  refine pn_call (by decide +kernel) (by decide) h (fun w1 h1 => ?_)
  refine pe_aload_n (j := 0) (by decide +kernel) rfl ?_
  refine pe_get (j := 12) (ci := 11) (n := 0) (by decide +kernel) (by decide +kernel) (h1.1.trans rfl) rfl ?_
  refine pe_iload_n (j := 2) (by decide +kernel) rfl ?_
  refine pn_call (by decide +kernel) (by decide) h1 (fun w2 h2 => ?_)
  refine pe_aload_n (j := 0) (by decide +kernel) rfl ?_
  refine pe_get (j := 12) (ci := 11) (n := 0) (by decide +kernel) (by decide +kernel) (h2.1.trans rfl) rfl ?_
  refine pe_iload_n (j := 3) (by decide +kernel) rfl ?_
  refine pn_call (by decide +kernel) (by decide) h2 (fun w3 h3 => ?_)
  refine pe_aload_n (j := 0) (by decide +kernel) rfl ?_
  refine pe_get (j := 12) (ci := 11) (n := 0) (by decide +kernel) (by decide +kernel) (h3.1.trans rfl) rfl ?_
  refine pe_iload (j := 4) (by decide +kernel) rfl ?_
  refine pn_call (by decide +kernel) (by decide) h3 (fun w4 h4 => ?_)
  refine pe_aload_n (j := 0) (by decide +kernel) rfl ?_
  refine pe_get (j := 12) (ci := 11) (n := 0) (by decide +kernel) (by decide +kernel) (h4.1.trans rfl) rfl ?_
  refine pe_iload (j := 5) (by decide +kernel) rfl ?_
  refine pn_call (by decide +kernel) (by decide) h4 (fun w5 h5 => ?_)
  refine pe_aload_n (j := 0) (by decide +kernel) rfl ?_
  refine pe_get (j := 12) (ci := 11) (n := 0) (by decide +kernel) (by decide +kernel) (h5.1.trans rfl) rfl ?_
  refine pe_get (j := 77) (ci := 8) (n := 5) (by decide +kernel) (by decide +kernel) h5.2.1 rfl ?_
  refine pe_top (v := 20) (by decide +kernel) ?_
  exact pe_iret (by decide +kernel) rfl rfl (k w5 h5)
/-- the reference's side -/
def fe_W (n : Nat) (w : pm_W) : Prop := w[147]? = fw_0[147]? ∧ ∃ bs : List Int32, w[148]? = some (.inl (0, .inl bs)) ∧ bs.length = 6760 ∧ bs.getD 2 0 = nI n
theorem fe_w {n : Nat} {w : pm_W} {bs : List Int32} {e : pm_E} (h0 : w[147]? = fw_0[147]?) (he : w[148]? = some e) (hl : bs.length = 6760) (hg : bs.getD 2 0 = nI n) : fe_W n (w.set 148 (.inl (0, .inl bs))) := ⟨(wk_ne (by decide)).trans h0, bs, wk_eq he, hl, hg⟩
theorem gd_ne {xs : List Int32} {i j : Nat} {v : Int32} (h : i ≠ j) : (xs.set i v).getD j 0 = xs.getD j 0 := by
  rw [List.getD_eq_getElem?_getD, List.getD_eq_getElem?_getD, List.getElem?_set_ne h]
theorem gd_eq {xs : List Int32} {i : Nat} {v : Int32} (h : i < xs.length) : (xs.set i v).getD i 0 = v := by
  rw [List.getD_eq_getElem?_getD, List.getElem?_set_self h]
  rfl
theorem k2_cl : (2 : Int32).toNatClampNeg = 2 := by decide +kernel
theorem re_tail {X : pm_X} {d i : Nat} {a b c dd e x : Int32} {v : Value} {w : pm_W} {Q : pm_R → Prop} (hi : i < 20) (h : fe_W i w) (k : ∀ (y : Int32) (w' : pm_W), fe_W (i + 1) w' → pmE pg X pg_tyl pg_cl d 196 20 [.ref 147, .int a, .int b, .int c, .int dd, .int e, .int (nI (i + 1)), .int y] [] w' Q) : pmE pg X pg_tyl pg_cl d 196 73 [.ref 147, .int a, .int b, .int c, .int dd, .int e, .int (nI i), v] [.int x] w Q := by
  obtain ⟨h0, bs, hb, hl, hg⟩ := h
  have hg2 : bs.getD (2 : Int32).toNatClampNeg 0 = nI i := by rw [k2_cl]; exact hg
  refine pe_istore (j := 7) (ls' := [_, _, _, _, _, _, _, _]) (by decide +kernel) (Nat.le_of_ble_eq_true rfl) rfl ?_
  refine pe_aload_n (j := 0) (by decide +kernel) rfl ?_
  refine pe_get (j := 7) (ci := 12) (n := 0) (by decide +kernel) (by decide +kernel) (h0.trans rfl) rfl ?_
  refine pe_bipushv (n := 10) (v := nI 10) (by decide +kernel) (by decide +kernel) ?_
  refine pe_aload_n (j := 0) (by decide +kernel) rfl ?_
  refine pe_get (j := 7) (ci := 12) (n := 0) (by decide +kernel) (by decide +kernel) (h0.trans rfl) rfl ?_
  refine pe_iconstv (n := 2) (v := 2) (by decide +kernel) (by decide +kernel) ?_
  refine pe_ialdv (n := 6760) (v := nI i) (by decide +kernel) hb hl (by decide +kernel) hg2 ?_
  refine pe_iadd (by decide +kernel) ?_
  refine pe_top (v := nI (10 + i)) (nI_add 10 i) ?_
  refine pe_iload (j := 7) (by decide +kernel) rfl ?_
  refine pe_bipushv (n := 24) (v := 24) (by decide +kernel) (by decide +kernel) ?_
  refine pe_bipushv (n := 8) (v := 8) (by decide +kernel) (by decide +kernel) ?_
  refine pe_iload (j := 6) (by decide +kernel) rfl ?_
  refine pe_iconstv (n := 4) (v := 4) (by decide +kernel) (by decide +kernel) ?_
  refine pe_irem (by decide +kernel) (by decide +kernel) ?_
  refine pe_imul (by decide +kernel) ?_
  refine pe_isub (by decide +kernel) ?_
  refine pe_ishr (by decide +kernel) ?_
  refine pe_sipushv (n := 255) (v := 255) (by decide +kernel) (by decide +kernel) ?_
  refine pe_iand (by decide +kernel) ?_
  refine pe_iastK (n := 6760) (by decide +kernel) hb hl (pm_in_of (vp_in_nI (by omega) (by decide))) (fun w2 e2 => ?_)
  rw [nI_clamp (by omega)] at e2
  have h2 : fe_W i w2 := e2 ▸ fe_w h0 hb (by rw [List.length_set]; exact hl) ((gd_ne (by omega)).trans hg)
  obtain ⟨j0, cs, kb, kl, kg⟩ := h2
  have kg2 : cs.getD (2 : Int32).toNatClampNeg 0 = nI i := by rw [k2_cl]; exact kg
  refine pe_aload_n (j := 0) (by decide +kernel) rfl ?_
  refine pe_get (j := 7) (ci := 12) (n := 0) (by decide +kernel) (by decide +kernel) (j0.trans rfl) rfl ?_
  refine pe_iconstv (n := 2) (v := 2) (by decide +kernel) (by decide +kernel) ?_
  refine pe_dup2 (by decide +kernel) ⟨rfl, rfl⟩ ?_
  refine pe_ialdv (n := 6760) (v := nI i) (by decide +kernel) kb kl (by decide +kernel) kg2 ?_
  refine pe_iconstv (n := 1) (v := 1) (by decide +kernel) (by decide +kernel) ?_
  refine pe_iadd (by decide +kernel) ?_
  refine pe_top (v := nI (i + 1)) (nI_1 i) ?_
  refine pe_iastK (n := 6760) (by decide +kernel) kb kl (by decide +kernel) (fun w3 e3 => ?_)
  rw [k2_cl] at e3
  have h3 : fe_W (i + 1) w3 := e3 ▸ fe_w j0 kb (by rw [List.length_set]; exact kl) (gd_eq (by omega))
  refine pe_iincv (j := 6) (n := 1) (v := nI (i + 1)) (ls' := [_, _, _, _, _, _, _, _]) (by decide +kernel) rfl (nI_1 i) rfl ?_
  refine pe_goto (off := (-99)) (t := 20) (by decide +kernel) (by decide) rfl ?_
  exact k _ w3 h3
theorem re_it {X : pm_X} {d i : Nat} {a b c dd e : Int32} {v : Value} {w : pm_W} {Q : pm_R → Prop} (hi : i < 20) (h : fe_W i w) (k : ∀ (y : Int32) (w' : pm_W), fe_W (i + 1) w' → pmE pg X pg_tyl pg_cl d 196 20 [.ref 147, .int a, .int b, .int c, .int dd, .int e, .int (nI (i + 1)), .int y] [] w' Q) : pmE pg X pg_tyl pg_cl d 196 20 [.ref 147, .int a, .int b, .int c, .int dd, .int e, .int (nI i), v] [] w Q := by
  refine pe_iload (j := 6) (by decide +kernel) rfl ?_
  refine pe_bipushv (n := 20) (v := nI 20) (by decide +kernel) (by decide +kernel) ?_
  refine pe_icmp_ge (off := 98) (t := 122) (by decide +kernel) (by decide) rfl (fun h' => absurd h' (nI_ge hi (by decide))) (fun _ => ?_)
  refine pe_iload (j := 6) (by decide +kernel) rfl ?_
  refine pe_iconstv (n := 4) (v := 4) (by decide +kernel) (by decide +kernel) ?_
  refine pe_icmp_ge (off := 7) (t := 37) (by decide +kernel) (by decide) rfl (fun _ => ?_) (fun _ => ?_)
  · refine pe_iload (j := 6) (by decide +kernel) rfl ?_
    refine pe_bipushv (n := 8) (v := 8) (by decide +kernel) (by decide +kernel) ?_
    refine pe_icmp_ge (off := 7) (t := 48) (by decide +kernel) (by decide) rfl (fun _ => ?_) (fun _ => ?_)
    · refine pe_iload (j := 6) (by decide +kernel) rfl ?_
      refine pe_bipushv (n := 12) (v := 12) (by decide +kernel) (by decide +kernel) ?_
      refine pe_icmp_ge (off := 7) (t := 59) (by decide +kernel) (by decide) rfl (fun _ => ?_) (fun _ => ?_)
      · refine pe_iload (j := 6) (by decide +kernel) rfl ?_
        refine pe_bipushv (n := 16) (v := 16) (by decide +kernel) (by decide +kernel) ?_
        refine pe_icmp_ge (off := 8) (t := 71) (by decide +kernel) (by decide) rfl (fun _ => ?_) (fun _ => ?_)
        · refine pe_iload (j := 5) (by decide +kernel) rfl ?_
          exact re_tail hi h k
        · refine pe_iload (j := 4) (by decide +kernel) rfl ?_
          refine pe_goto (off := 5) (t := 73) (by decide +kernel) (by decide) rfl ?_
          exact re_tail hi h k
      · refine pe_iload_n (j := 3) (by decide +kernel) rfl ?_
        refine pe_goto (off := 17) (t := 73) (by decide +kernel) (by decide) rfl ?_
        exact re_tail hi h k
    · refine pe_iload_n (j := 2) (by decide +kernel) rfl ?_
      refine pe_goto (off := 28) (t := 73) (by decide +kernel) (by decide) rfl ?_
      exact re_tail hi h k
  · refine pe_iload_n (j := 1) (by decide +kernel) rfl ?_
    refine pe_goto (off := 39) (t := 73) (by decide +kernel) (by decide) rfl ?_
    exact re_tail hi h k
theorem re_loop {X : pm_X} {d : Nat} {a b c dd e : Int32} {Q : pm_R → Prop} (k : ∀ w' : pm_W, fe_W 20 w' → Q (some (.int 20), w', 0, 0)) : ∀ (m i : Nat) (v : Value) (w : pm_W), m + i = 20 → fe_W i w → pmE pg X pg_tyl pg_cl d 196 20 [.ref 147, .int a, .int b, .int c, .int dd, .int e, .int (nI i), v] [] w Q := by
  intro m
  induction m with
  | zero =>
    intro i v w hi h
    have hi : i = 20 := by omega
    subst hi
    obtain ⟨h0, bs, hb, hl, hg⟩ := id h
    have hg2 : bs.getD (2 : Int32).toNatClampNeg 0 = 20 := by rw [k2_cl]; exact hg
    refine pe_iload (j := 6) (by decide +kernel) rfl ?_
    refine pe_bipushv (n := 20) (v := 20) (by decide +kernel) (by decide +kernel) ?_
    refine pe_icmp_ge (off := 98) (t := 122) (by decide +kernel) (by decide) rfl (fun _ => ?_) (fun h' => absurd (by decide +kernel) h')
    refine pe_aload_n (j := 0) (by decide +kernel) rfl ?_
    refine pe_get (j := 7) (ci := 12) (n := 0) (by decide +kernel) (by decide +kernel) (h0.trans rfl) rfl ?_
    refine pe_iconstv (n := 2) (v := 2) (by decide +kernel) (by decide +kernel) ?_
    refine pe_ialdv (n := 6760) (v := 20) (by decide +kernel) hb hl (by decide +kernel) hg2 ?_
    exact pe_iret (by decide +kernel) rfl rfl (k w h)
  | succ m ih =>
    intro i v w hi h
    exact re_it (by omega) h (fun y w' h' => ih (i + 1) _ w' (by omega) h')
theorem fd_ref {X : pm_X} {d : Nat} {x1 x2 x3 x4 x5 : Int32} {w : pm_W} {Q : pm_R → Prop} (h : fe_W 0 w) (k : ∀ w' : pm_W, fe_W 20 w' → Q (some (.int 20), w', 0, 0)) : pmE pg X pg_tyl pg_cl d 196 0 (pm_ent (pm_max pg 196) [.ref 147, .int x1, .int x2, .int x3, .int x4, .int x5]) [] w Q := by
  show pmE pg X pg_tyl pg_cl d 196 0 [.ref 147, .int x1, .int x2, .int x3, .int x4, .int x5, pm_dead, pm_dead] [] w Q
  obtain ⟨h0, bs, hb, hl, hg⟩ := id h
  have hg2 : bs.getD (2 : Int32).toNatClampNeg 0 = 0 := by rw [k2_cl]; exact hg
  refine pe_aload_n (j := 0) (by decide +kernel) rfl ?_
  refine pe_get (j := 7) (ci := 12) (n := 0) (by decide +kernel) (by decide +kernel) (h0.trans rfl) rfl ?_
  refine pe_iconstv (n := 2) (v := 2) (by decide +kernel) (by decide +kernel) ?_
  refine pe_ialdv (n := 6760) (v := 0) (by decide +kernel) hb hl (by decide +kernel) hg2 ?_
  refine pe_bipushv (n := 20) (v := 20) (by decide +kernel) (by decide +kernel) ?_
  refine pe_iadd (by decide +kernel) ?_
  refine pe_sipushv (n := 600) (v := 600) (by decide +kernel) (by decide +kernel) ?_
  refine pe_icmp_le (off := 5) (t := 17) (by decide +kernel) (by decide) rfl (fun _ => ?_) (fun h' => absurd (by decide +kernel) h')
  refine pe_iconstv (n := 0) (v := nI 0) (by decide +kernel) (by decide +kernel) ?_
  refine pe_istore (j := 6) (ls' := [_, _, _, _, _, _, _, _]) (by decide +kernel) (Nat.le_of_ble_eq_true rfl) rfl ?_
  exact re_loop k 20 0 _ w rfl h
