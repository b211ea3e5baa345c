set_option maxRecDepth 20000 in
set_option maxHeartbeats 2000000 in
theorem U13_0 {X : pm_X} {k : Nat} {w w' : pm_W} {r : Option Value} {p1 : Int32} {p2 : Int32} {p3 : Int32} {p4 : Int32} {p5 : Int32} (hS : SK w) (h : PS X (k + 1) 13 0 [.ref 0, .int p1, .int p2, .int p3, .int p4, .int p5] [] w r w') : if ((gI w 1 5) + 20) ≤ 600 then (∃ (r1 : Option Value) (w2 : pm_W), PS X k 14 0 [.ref 1, .int p1, pm_dead] [] w r1 w2 ∧ (r1 = none → SK w2 → (∃ (r3 : Option Value) (w4 : pm_W), PS X k 14 0 [.ref 1, .int p2, pm_dead] [] w2 r3 w4 ∧ (r3 = none → SK w4 → (∃ (r5 : Option Value) (w6 : pm_W), PS X k 14 0 [.ref 1, .int p3, pm_dead] [] w4 r5 w6 ∧ (r5 = none → SK w6 → (∃ (r7 : Option Value) (w8 : pm_W), PS X k 14 0 [.ref 1, .int p4, pm_dead] [] w6 r7 w8 ∧ (r7 = none → SK w8 → (∃ (r9 : Option Value) (w10 : pm_W), PS X k 14 0 [.ref 1, .int p5, pm_dead] [] w8 r9 w10 ∧ (r9 = none → SK w10 → (r = some (.int (gI w10 1 5)) ∧ w' = w10))))))))))) else (r = some (.int (-1)) ∧ w' = w) := by
  have h := sp_one (i := .aload_n 0) (by decide +kernel) rfl h
  have h := sp_getK (jj := 12) (ci := 11) (n := 0) (b := 1) (by decide +kernel) (by decide +kernel) (by decide +kernel) (by decide +kernel) (by decide) hS h
  have h := sp_getI (jj := 77) (ci := 8) (n := 5) (by decide +kernel) (by decide +kernel) (by decide +kernel) hS h
  have h := sp_bipush (n := 20) (v := 20) (by decide +kernel) (by decide +kernel) h
  have h := sp_onk (i := .iadd) (by decide +kernel) rfl h
  have h := sp_sipush (n := 600) (v := 600) (by decide +kernel) (by decide +kernel) h
  rcases sp_icmp_le (mi := 13) (pc := 13) (off := 5) (t := 18) (by decide +kernel) (by decide) rfl h with ⟨hc, h⟩ | ⟨hc, h⟩
  · refine ite_t hc ?_
    have h := sp_onk (i := .aload_n 0) (by decide +kernel) rfl h
    have h := sp_getK (jj := 12) (ci := 11) (n := 0) (b := 1) (by decide +kernel) (by decide +kernel) (by decide +kernel) (by decide +kernel) (by decide) hS h
    have h := sp_onk (i := .iload_n 1) (by decide +kernel) rfl h
    obtain ⟨r1, w2, hc, h⟩ := sp_callV (jj := 81) (mj := 14) (n := 1) (v := .ref 1) (args := [.int p1]) (ls' := [.ref 1, .int p1, pm_dead]) (by decide +kernel) (by decide +kernel) rfl rfl rfl h
    refine ⟨r1, w2, hc, fun er hSw2 => ?_⟩
    subst er
    have h : PS X k 13 26 [.ref 0, .int p1, .int p2, .int p3, .int p4, .int p5] [] w2 r w' := h
    have h := sp_onk (i := .aload_n 0) (by decide +kernel) rfl h
    have h := sp_getK (jj := 12) (ci := 11) (n := 0) (b := 1) (by decide +kernel) (by decide +kernel) (by decide +kernel) (by decide +kernel) (by decide) hSw2 h
    have h := sp_onk (i := .iload_n 2) (by decide +kernel) rfl h
    obtain ⟨r3, w4, hc, h⟩ := sp_callV (jj := 81) (mj := 14) (n := 1) (v := .ref 1) (args := [.int p2]) (ls' := [.ref 1, .int p2, pm_dead]) (by decide +kernel) (by decide +kernel) rfl rfl rfl h
    refine ⟨r3, w4, hc, fun er hSw4 => ?_⟩
    subst er
    have h : PS X k 13 34 [.ref 0, .int p1, .int p2, .int p3, .int p4, .int p5] [] w4 r w' := h
    have h := sp_onk (i := .aload_n 0) (by decide +kernel) rfl h
    have h := sp_getK (jj := 12) (ci := 11) (n := 0) (b := 1) (by decide +kernel) (by decide +kernel) (by decide +kernel) (by decide +kernel) (by decide) hSw4 h
    have h := sp_onk (i := .iload_n 3) (by decide +kernel) rfl h
    obtain ⟨r5, w6, hc, h⟩ := sp_callV (jj := 81) (mj := 14) (n := 1) (v := .ref 1) (args := [.int p3]) (ls' := [.ref 1, .int p3, pm_dead]) (by decide +kernel) (by decide +kernel) rfl rfl rfl h
    refine ⟨r5, w6, hc, fun er hSw6 => ?_⟩
    subst er
    have h : PS X k 13 42 [.ref 0, .int p1, .int p2, .int p3, .int p4, .int p5] [] w6 r w' := h
    have h := sp_onk (i := .aload_n 0) (by decide +kernel) rfl h
    have h := sp_getK (jj := 12) (ci := 11) (n := 0) (b := 1) (by decide +kernel) (by decide +kernel) (by decide +kernel) (by decide +kernel) (by decide) hSw6 h
    have h := sp_onk (i := .iload 4) (by decide +kernel) rfl h
    obtain ⟨r7, w8, hc, h⟩ := sp_callV (jj := 81) (mj := 14) (n := 1) (v := .ref 1) (args := [.int p4]) (ls' := [.ref 1, .int p4, pm_dead]) (by decide +kernel) (by decide +kernel) rfl rfl rfl h
    refine ⟨r7, w8, hc, fun er hSw8 => ?_⟩
    subst er
    have h : PS X k 13 51 [.ref 0, .int p1, .int p2, .int p3, .int p4, .int p5] [] w8 r w' := h
    have h := sp_onk (i := .aload_n 0) (by decide +kernel) rfl h
    have h := sp_getK (jj := 12) (ci := 11) (n := 0) (b := 1) (by decide +kernel) (by decide +kernel) (by decide +kernel) (by decide +kernel) (by decide) hSw8 h
    have h := sp_onk (i := .iload 5) (by decide +kernel) rfl h
    obtain ⟨r9, w10, hc, h⟩ := sp_callV (jj := 81) (mj := 14) (n := 1) (v := .ref 1) (args := [.int p5]) (ls' := [.ref 1, .int p5, pm_dead]) (by decide +kernel) (by decide +kernel) rfl rfl rfl h
    refine ⟨r9, w10, hc, fun er hSw10 => ?_⟩
    subst er
    have h : PS X k 13 60 [.ref 0, .int p1, .int p2, .int p3, .int p4, .int p5] [] w10 r w' := h
    have h := sp_onk (i := .aload_n 0) (by decide +kernel) rfl h
    have h := sp_getK (jj := 12) (ci := 11) (n := 0) (b := 1) (by decide +kernel) (by decide +kernel) (by decide +kernel) (by decide +kernel) (by decide) hSw10 h
    have h := sp_getI (jj := 77) (ci := 8) (n := 5) (by decide +kernel) (by decide +kernel) (by decide +kernel) hSw10 h
    exact sp_iret (by decide +kernel) h
  · refine ite_f hc ?_
    have h := sp_iconst (n := (-1)) (v := (-1)) (by decide +kernel) (by decide +kernel) h
    exact sp_iret (by decide +kernel) h
set_option maxRecDepth 20000 in
set_option maxHeartbeats 2000000 in
theorem U14_0 {X : pm_X} {k : Nat} {w w' : pm_W} {r : Option Value} {a : Nat} {p1 : Int32} (hS : SK w) (h : PS X (k + 1) 14 0 [.ref a, .int p1, pm_dead] [] w r w') : PS X k 14 3 [.ref a, .int p1, .int 24] [] w r w' := by
  have h := sp_bipush1 (n := 24) (v := 24) (by decide +kernel) (by decide +kernel) h
  have h := sp_istore_n (j := 2) (ls' := [.ref a, .int p1, .int 24]) (by decide +kernel) (Nat.le_of_ble_eq_true rfl) rfl h
  exact h
set_option maxRecDepth 20000 in
set_option maxHeartbeats 2000000 in
theorem U14_3 {X : pm_X} {k : Nat} {w w' : pm_W} {r : Option Value} {o0 : Nat} {i1 : Int32} {i2 : Int32} (hS : SK w) (h : PS X (k + 1) 14 3 [.ref o0, .int i1, .int i2] [] w r w') : if i2 < 0 then (r = none ∧ w' = w) else (if 600 ≤ (gI w o0 5) then (r = none ∧ w' = w) else (aI w (gR w o0 4) (gI w o0 5) ∧ (∀ w1 : pm_W, w1 = aB w (gR w o0 4) (gI w o0 5) ((i1 >>> (i2 &&& 31)).toInt8.toInt32) → (∀ w2 : pm_W, w2 = sI w1 o0 5 ((gI w1 o0 5) + 1) → (PS X k 14 3 [.ref o0, .int i1, .int (i2 + (-8))] [] w2 r w'))))) := by
  have h := sp_one (i := .iload_n 2) (by decide +kernel) rfl h
  rcases sp_if_lt (mi := 14) (pc := 4) (off := 42) (t := 46) (by decide +kernel) (by decide) rfl h with ⟨hc, h⟩ | ⟨hc, h⟩
  · refine ite_t hc ?_
    exact sp_vret (by decide +kernel) h
  · refine ite_f hc ?_
    have h := sp_onk (i := .aload_n 0) (by decide +kernel) rfl h
    have h := sp_getI (jj := 46) (ci := 8) (n := 5) (by decide +kernel) (by decide +kernel) (by decide +kernel) hS h
    have h := sp_sipush (n := 600) (v := 600) (by decide +kernel) (by decide +kernel) h
    rcases sp_icmp_ge (mi := 14) (pc := 14) (off := 32) (t := 46) (by decide +kernel) (by decide) rfl h with ⟨hc, h⟩ | ⟨hc, h⟩
    · refine ite_t hc ?_
      exact sp_vret (by decide +kernel) h
    · refine ite_f hc ?_
      have h := sp_onk (i := .aload_n 0) (by decide +kernel) rfl h
      have h := sp_getR (jj := 23) (ci := 8) (n := 4) (by decide +kernel) (by decide +kernel) (by decide +kernel) hS h
      have h := sp_onk (i := .aload_n 0) (by decide +kernel) rfl h
      have h := sp_getI (jj := 46) (ci := 8) (n := 5) (by decide +kernel) (by decide +kernel) (by decide +kernel) hS h
      have h := sp_onk (i := .iload_n 1) (by decide +kernel) rfl h
      have h := sp_onk (i := .iload_n 2) (by decide +kernel) rfl h
      have h := sp_onk (i := .ishr) (by decide +kernel) rfl h
      have h := sp_onk (i := .i2b) (by decide +kernel) rfl h
      obtain ⟨hi, h⟩ := sp_bast (by decide +kernel) h
      refine ⟨hi, ?_⟩
      intro w1 ew1
      rw [← ew1] at h
      have hSw1 : SK w1 := by rw [ew1]; exact SK_aB hS
      have h := sp_onk (i := .aload_n 0) (by decide +kernel) rfl h
      have h := sp_onk (i := .dup) (by decide +kernel) rfl h
      have h := sp_getI (jj := 46) (ci := 8) (n := 5) (by decide +kernel) (by decide +kernel) (by decide +kernel) hSw1 h
      have h := sp_iconst (n := 1) (v := 1) (by decide +kernel) (by decide +kernel) h
      have h := sp_onk (i := .iadd) (by decide +kernel) rfl h
      have h := sp_putI (jj := 46) (ci := 8) (n := 5) (ty := .int) (by decide +kernel) (by decide +kernel) (by decide +kernel) hSw1 h
      intro w2 ew2
      rw [← ew2] at h
      have hSw2 : SK w2 := by rw [ew2]; exact SK_sI hSw1
      have h := sp_iinc (j := 2) (n := (-8)) (v := (-8)) (ls' := [.ref o0, .int i1, .int (i2 + (-8))]) (by decide +kernel) rfl (by decide +kernel) rfl h
      have h := sp_goto (mi := 14) (pc := 43) (off := (-40)) (t := 3) (by decide +kernel) (by decide) rfl h
      exact h
set_option maxRecDepth 20000 in
set_option maxHeartbeats 2000000 in
theorem U15_0 {X : pm_X} {k : Nat} {w w' : pm_W} {r : Option Value} {p1 : Int32} (hS : SK w) (h : PS X (k + 1) 15 0 [.ref 0, .int p1] [] w r w') : if p1 < 0 then (r = some (.int (-1)) ∧ w' = w) else (if p1 ≤ (gI w 1 5) then (∀ w1 : pm_W, w1 = sI w 1 5 p1 → (r = some (.int p1) ∧ w' = w1)) else (r = some (.int (-1)) ∧ w' = w)) := by
  have h := sp_one (i := .iload_n 1) (by decide +kernel) rfl h
  rcases sp_if_lt (mi := 15) (pc := 1) (off := 14) (t := 15) (by decide +kernel) (by decide) rfl h with ⟨hc, h⟩ | ⟨hc, h⟩
  · refine ite_t hc ?_
    have h := sp_iconst (n := (-1)) (v := (-1)) (by decide +kernel) (by decide +kernel) h
    exact sp_iret (by decide +kernel) h
  · refine ite_f hc ?_
    have h := sp_onk (i := .iload_n 1) (by decide +kernel) rfl h
    have h := sp_onk (i := .aload_n 0) (by decide +kernel) rfl h
    have h := sp_getK (jj := 12) (ci := 11) (n := 0) (b := 1) (by decide +kernel) (by decide +kernel) (by decide +kernel) (by decide +kernel) (by decide) hS h
    have h := sp_getI (jj := 77) (ci := 8) (n := 5) (by decide +kernel) (by decide +kernel) (by decide +kernel) hS h
    rcases sp_icmp_le (mi := 15) (pc := 12) (off := 5) (t := 17) (by decide +kernel) (by decide) rfl h with ⟨hc, h⟩ | ⟨hc, h⟩
    · refine ite_t hc ?_
      have h := sp_onk (i := .aload_n 0) (by decide +kernel) rfl h
      have h := sp_getK (jj := 12) (ci := 11) (n := 0) (b := 1) (by decide +kernel) (by decide +kernel) (by decide +kernel) (by decide +kernel) (by decide) hS h
      have h := sp_onk (i := .iload_n 1) (by decide +kernel) rfl h
      have h := sp_putI (jj := 77) (ci := 8) (n := 5) (ty := .int) (by decide +kernel) (by decide +kernel) (by decide +kernel) hS h
      intro w1 ew1
      rw [← ew1] at h
      have hSw1 : SK w1 := by rw [ew1]; exact SK_sI hS
      have h := sp_onk (i := .iload_n 1) (by decide +kernel) rfl h
      exact sp_iret (by decide +kernel) h
    · refine ite_f hc ?_
      have h := sp_iconst (n := (-1)) (v := (-1)) (by decide +kernel) (by decide +kernel) h
      exact sp_iret (by decide +kernel) h
set_option maxRecDepth 20000 in
set_option maxHeartbeats 2000000 in
theorem U16_0 {X : pm_X} {k : Nat} {w w' : pm_W} {r : Option Value} {p1 : Int32} {p2 : Int32} (hS : SK w) (h : PS X (k + 1) 16 0 [.ref 0, .int p1, .int p2, pm_dead, pm_dead] [] w r w') : ∀ w1 : pm_W, w1 = sI w 1 5 0 → (∀ w2 : pm_W, w2 = sI w1 1 6 0 → (∀ w3 : pm_W, w3 = sI w2 1 7 (-1) → (∃ (r4 : Option Value) (w5 : pm_W), PS X k 17 0 [.ref 1, .int p1, .int p2, pm_dead, pm_dead] [] w3 r4 w5 ∧ (∀ x6 : Int32, r4 = some (.int x6) → SK w5 → (if x6 = (-1) then (r = some (.int (-2)) ∧ w' = w5) else (∃ (r7 : Option Value) (w8 : pm_W), PS X k 18 0 [.ref 23, .ref 4, .int (gI w 1 5), .int p1, pm_dead] [] w5 r7 w8 ∧ (r7 = none → SK w8 → (if (gI w8 23 10) = 0 then (∃ (r9 : Option Value) (w10 : pm_W), PS X k 55 0 [.ref 1, .int p1, .int x6, .ref 23] [] w8 r9 w10 ∧ (r9 = none → SK w10 → (r = some (.int x6) ∧ w' = w10))) else (∀ w11 : pm_W, w11 = sI w8 1 6 (gI w8 23 10) → (∀ w12 : pm_W, w12 = sI w11 1 7 (gI w11 23 11) → (r = some (.int (-1)) ∧ w' = w12))))))))))) := by
  have h := sp_one (i := .aload_n 0) (by decide +kernel) rfl h
  have h := sp_getK (jj := 12) (ci := 11) (n := 0) (b := 1) (by decide +kernel) (by decide +kernel) (by decide +kernel) (by decide +kernel) (by decide) hS h
  have h := sp_getI (jj := 77) (ci := 8) (n := 5) (by decide +kernel) (by decide +kernel) (by decide +kernel) hS h
  have h := sp_istore_n (j := 3) (ls' := [.ref 0, .int p1, .int p2, .int (gI w 1 5), pm_dead]) (by decide +kernel) (Nat.le_of_ble_eq_true rfl) rfl h
  have h := sp_onk (i := .aload_n 0) (by decide +kernel) rfl h
  have h := sp_getK (jj := 12) (ci := 11) (n := 0) (b := 1) (by decide +kernel) (by decide +kernel) (by decide +kernel) (by decide +kernel) (by decide) hS h
  have h := sp_iconst (n := 0) (v := 0) (by decide +kernel) (by decide +kernel) h
  have h := sp_putI (jj := 77) (ci := 8) (n := 5) (ty := .int) (by decide +kernel) (by decide +kernel) (by decide +kernel) hS h
  intro w1 ew1
  rw [← ew1] at h
  have hSw1 : SK w1 := by rw [ew1]; exact SK_sI hS
  have h := sp_onk (i := .aload_n 0) (by decide +kernel) rfl h
  have h := sp_getK (jj := 12) (ci := 11) (n := 0) (b := 1) (by decide +kernel) (by decide +kernel) (by decide +kernel) (by decide +kernel) (by decide) hSw1 h
  have h := sp_iconst (n := 0) (v := 0) (by decide +kernel) (by decide +kernel) h
  have h := sp_putI (jj := 85) (ci := 8) (n := 6) (ty := .int) (by decide +kernel) (by decide +kernel) (by decide +kernel) hSw1 h
  intro w2 ew2
  rw [← ew2] at h
  have hSw2 : SK w2 := by rw [ew2]; exact SK_sI hSw1
  have h := sp_onk (i := .aload_n 0) (by decide +kernel) rfl h
  have h := sp_getK (jj := 12) (ci := 11) (n := 0) (b := 1) (by decide +kernel) (by decide +kernel) (by decide +kernel) (by decide +kernel) (by decide) hSw2 h
  have h := sp_iconst (n := (-1)) (v := (-1)) (by decide +kernel) (by decide +kernel) h
  have h := sp_putI (jj := 88) (ci := 8) (n := 7) (ty := .int) (by decide +kernel) (by decide +kernel) (by decide +kernel) hSw2 h
  intro w3 ew3
  rw [← ew3] at h
  have hSw3 : SK w3 := by rw [ew3]; exact SK_sI hSw2
  have h := sp_onk (i := .aload_n 0) (by decide +kernel) rfl h
  have h := sp_getK (jj := 12) (ci := 11) (n := 0) (b := 1) (by decide +kernel) (by decide +kernel) (by decide +kernel) (by decide +kernel) (by decide) hSw3 h
  have h := sp_onk (i := .iload_n 1) (by decide +kernel) rfl h
  have h := sp_onk (i := .iload_n 2) (by decide +kernel) rfl h
  obtain ⟨r4, w5, hc, h⟩ := sp_callV (jj := 91) (mj := 17) (n := 2) (v := .ref 1) (args := [.int p2, .int p1]) (ls' := [.ref 1, .int p1, .int p2, pm_dead, pm_dead]) (by decide +kernel) (by decide +kernel) rfl rfl rfl h
  refine ⟨r4, w5, hc, fun x6 er hSw5 => ?_⟩
  subst er
  have h : PS X k 16 41 [.ref 0, .int p1, .int p2, .int (gI w 1 5), pm_dead] [.int x6] w5 r w' := h
  have h := sp_istore (j := 4) (ls' := [.ref 0, .int p1, .int p2, .int (gI w 1 5), .int x6]) (by decide +kernel) (Nat.le_of_ble_eq_true rfl) rfl h
  have h := sp_onk (i := .iload 4) (by decide +kernel) rfl h
  have h := sp_iconst (n := (-1)) (v := (-1)) (by decide +kernel) (by decide +kernel) h
  rcases sp_icmp_ne (mi := 16) (pc := 46) (off := 6) (t := 52) (by decide +kernel) (by decide) rfl h with ⟨hc, h⟩ | ⟨hc, h⟩
  · refine ite_f hc ?_
    have h := sp_onk (i := .aload_n 0) (by decide +kernel) rfl h
    have h := sp_getK (jj := 27) (ci := 11) (n := 3) (b := 23) (by decide +kernel) (by decide +kernel) (by decide +kernel) (by decide +kernel) (by decide) hSw5 h
    have h := sp_onk (i := .aload_n 0) (by decide +kernel) rfl h
    have h := sp_getK (jj := 12) (ci := 11) (n := 0) (b := 1) (by decide +kernel) (by decide +kernel) (by decide +kernel) (by decide +kernel) (by decide) hSw5 h
    have h := sp_getK (jj := 95) (ci := 8) (n := 4) (b := 4) (by decide +kernel) (by decide +kernel) (by decide +kernel) (by decide +kernel) (by decide) hSw5 h
    have h := sp_onk (i := .iload_n 3) (by decide +kernel) rfl h
    have h := sp_onk (i := .iload_n 1) (by decide +kernel) rfl h
    obtain ⟨r7, w8, hc, h⟩ := sp_callV (jj := 99) (mj := 18) (n := 3) (v := .ref 23) (args := [.int p1, .int (gI w 1 5), .ref 4]) (ls' := [.ref 23, .ref 4, .int (gI w 1 5), .int p1, pm_dead]) (by decide +kernel) (by decide +kernel) rfl rfl rfl h
    refine ⟨r7, w8, hc, fun er hSw8 => ?_⟩
    subst er
    have h : PS X k 16 68 [.ref 0, .int p1, .int p2, .int (gI w 1 5), .int x6] [] w8 r w' := h
    have h := sp_onk (i := .aload_n 0) (by decide +kernel) rfl h
    have h := sp_getK (jj := 27) (ci := 11) (n := 3) (b := 23) (by decide +kernel) (by decide +kernel) (by decide +kernel) (by decide +kernel) (by decide) hSw8 h
    have h := sp_getI (jj := 103) (ci := 4) (n := 10) (by decide +kernel) (by decide +kernel) (by decide +kernel) hSw8 h
    rcases sp_if_eq (mi := 16) (pc := 75) (off := 33) (t := 108) (by decide +kernel) (by decide) rfl h with ⟨hc, h⟩ | ⟨hc, h⟩
    · refine ite_t hc ?_
      have h := sp_onk (i := .aload_n 0) (by decide +kernel) rfl h
      have h := sp_getK (jj := 12) (ci := 11) (n := 0) (b := 1) (by decide +kernel) (by decide +kernel) (by decide +kernel) (by decide +kernel) (by decide) hSw8 h
      have h := sp_onk (i := .iload_n 1) (by decide +kernel) rfl h
      have h := sp_onk (i := .iload 4) (by decide +kernel) rfl h
      have h := sp_onk (i := .aload_n 0) (by decide +kernel) rfl h
      have h := sp_getK (jj := 27) (ci := 11) (n := 3) (b := 23) (by decide +kernel) (by decide +kernel) (by decide +kernel) (by decide +kernel) (by decide) hSw8 h
      obtain ⟨r9, w10, hc, h⟩ := sp_callV (jj := 107) (mj := 55) (n := 3) (v := .ref 1) (args := [.ref 23, .int x6, .int p1]) (ls' := [.ref 1, .int p1, .int x6, .ref 23]) (by decide +kernel) (by decide +kernel) rfl rfl rfl h
      refine ⟨r9, w10, hc, fun er hSw10 => ?_⟩
      subst er
      have h : PS X k 16 122 [.ref 0, .int p1, .int p2, .int (gI w 1 5), .int x6] [] w10 r w' := h
      have h := sp_onk (i := .iload 4) (by decide +kernel) rfl h
      exact sp_iret (by decide +kernel) h
    · refine ite_f hc ?_
      have h := sp_onk (i := .aload_n 0) (by decide +kernel) rfl h
      have h := sp_getK (jj := 12) (ci := 11) (n := 0) (b := 1) (by decide +kernel) (by decide +kernel) (by decide +kernel) (by decide +kernel) (by decide) hSw8 h
      have h := sp_onk (i := .aload_n 0) (by decide +kernel) rfl h
      have h := sp_getK (jj := 27) (ci := 11) (n := 3) (b := 23) (by decide +kernel) (by decide +kernel) (by decide +kernel) (by decide +kernel) (by decide) hSw8 h
      have h := sp_getI (jj := 103) (ci := 4) (n := 10) (by decide +kernel) (by decide +kernel) (by decide +kernel) hSw8 h
      have h := sp_putI (jj := 85) (ci := 8) (n := 6) (ty := .int) (by decide +kernel) (by decide +kernel) (by decide +kernel) hSw8 h
      intro w11 ew11
      rw [← ew11] at h
      have hSw11 : SK w11 := by rw [ew11]; exact SK_sI hSw8
      have h := sp_onk (i := .aload_n 0) (by decide +kernel) rfl h
      have h := sp_getK (jj := 12) (ci := 11) (n := 0) (b := 1) (by decide +kernel) (by decide +kernel) (by decide +kernel) (by decide +kernel) (by decide) hSw11 h
      have h := sp_onk (i := .aload_n 0) (by decide +kernel) rfl h
      have h := sp_getK (jj := 27) (ci := 11) (n := 3) (b := 23) (by decide +kernel) (by decide +kernel) (by decide +kernel) (by decide +kernel) (by decide) hSw11 h
      have h := sp_getI (jj := 104) (ci := 4) (n := 11) (by decide +kernel) (by decide +kernel) (by decide +kernel) hSw11 h
      have h := sp_putI (jj := 88) (ci := 8) (n := 7) (ty := .int) (by decide +kernel) (by decide +kernel) (by decide +kernel) hSw11 h
      intro w12 ew12
      rw [← ew12] at h
      have hSw12 : SK w12 := by rw [ew12]; exact SK_sI hSw11
      have h := sp_iconst (n := (-1)) (v := (-1)) (by decide +kernel) (by decide +kernel) h
      exact sp_iret (by decide +kernel) h
  · refine ite_t (Classical.not_not.mp hc) ?_
    have h := sp_bipush (n := (-2)) (v := (-2)) (by decide +kernel) (by decide +kernel) h
    exact sp_iret (by decide +kernel) h
set_option maxRecDepth 20000 in
set_option maxHeartbeats 2000000 in
theorem U17_0 {X : pm_X} {k : Nat} {w w' : pm_W} {r : Option Value} {a : Nat} {p1 : Int32} {p2 : Int32} (hS : SK w) (h : PS X (k + 1) 17 0 [.ref a, .int p1, .int p2, pm_dead, pm_dead] [] w r w') : if p1 = 0 then (PS X k 17 11 [.ref a, .int p1, .int p2, pm_dead, pm_dead] [] w r w') else (if p1 = 1 then (PS X k 17 11 [.ref a, .int p1, .int p2, pm_dead, pm_dead] [] w r w') else (r = some (.int (-1)) ∧ w' = w)) := by
  have h := sp_one (i := .iload_n 1) (by decide +kernel) rfl h
  rcases sp_if_eq (mi := 17) (pc := 1) (off := 10) (t := 11) (by decide +kernel) (by decide) rfl h with ⟨hc, h⟩ | ⟨hc, h⟩
  · refine ite_t hc ?_
    exact h
  · refine ite_f hc ?_
    have h := sp_onk (i := .iload_n 1) (by decide +kernel) rfl h
    have h := sp_iconst (n := 1) (v := 1) (by decide +kernel) (by decide +kernel) h
    rcases sp_icmp_eq (mi := 17) (pc := 6) (off := 5) (t := 11) (by decide +kernel) (by decide) rfl h with ⟨hc, h⟩ | ⟨hc, h⟩
    · refine ite_t hc ?_
      exact h
    · refine ite_f hc ?_
      have h := sp_iconst (n := (-1)) (v := (-1)) (by decide +kernel) (by decide +kernel) h
      exact sp_iret (by decide +kernel) h
set_option maxRecDepth 20000 in
set_option maxHeartbeats 2000000 in
theorem U17_11 {X : pm_X} {k : Nat} {w w' : pm_W} {r : Option Value} {o0 : Nat} {i1 : Int32} {i2 : Int32} (hS : SK w) (h : PS X (k + 1) 17 11 [.ref o0, .int i1, .int i2, pm_dead, pm_dead] [] w r w') : if i1 = 0 then (if i1 = 0 then (if i2 = (-1) then (if 2 ≤ (gI w o0 2) then (r = some (.int (-1)) ∧ w' = w) else (r = some (.int (gI w o0 2)) ∧ w' = w)) else (if i2 < 0 then (PS X k 17 68 [.ref o0, .int i1, .int i2, .int (gI w o0 2), .int 2] [] w r w') else (if (gI w o0 2) ≤ i2 then (PS X k 17 68 [.ref o0, .int i1, .int i2, .int (gI w o0 2), .int 2] [] w r w') else (r = some (.int i2) ∧ w' = w)))) else (if i2 = (-1) then (if 3 ≤ (gI w o0 2) then (r = some (.int (-1)) ∧ w' = w) else (r = some (.int (gI w o0 2)) ∧ w' = w)) else (if i2 < 0 then (PS X k 17 68 [.ref o0, .int i1, .int i2, .int (gI w o0 2), .int 3] [] w r w') else (if (gI w o0 2) ≤ i2 then (PS X k 17 68 [.ref o0, .int i1, .int i2, .int (gI w o0 2), .int 3] [] w r w') else (r = some (.int i2) ∧ w' = w))))) else (if i1 = 0 then (if i2 = (-1) then (if 2 ≤ (gI w o0 3) then (r = some (.int (-1)) ∧ w' = w) else (r = some (.int (gI w o0 3)) ∧ w' = w)) else (if i2 < 0 then (PS X k 17 68 [.ref o0, .int i1, .int i2, .int (gI w o0 3), .int 2] [] w r w') else (if (gI w o0 3) ≤ i2 then (PS X k 17 68 [.ref o0, .int i1, .int i2, .int (gI w o0 3), .int 2] [] w r w') else (r = some (.int i2) ∧ w' = w)))) else (if i2 = (-1) then (if 3 ≤ (gI w o0 3) then (r = some (.int (-1)) ∧ w' = w) else (r = some (.int (gI w o0 3)) ∧ w' = w)) else (if i2 < 0 then (PS X k 17 68 [.ref o0, .int i1, .int i2, .int (gI w o0 3), .int 3] [] w r w') else (if (gI w o0 3) ≤ i2 then (PS X k 17 68 [.ref o0, .int i1, .int i2, .int (gI w o0 3), .int 3] [] w r w') else (r = some (.int i2) ∧ w' = w))))) := by
  have h := sp_one (i := .iload_n 1) (by decide +kernel) rfl h
  rcases sp_if_ne (mi := 17) (pc := 12) (off := 10) (t := 22) (by decide +kernel) (by decide) rfl h with ⟨hc, h⟩ | ⟨hc, h⟩
  · refine ite_f hc ?_
    have h := sp_onk (i := .aload_n 0) (by decide +kernel) rfl h
    have h := sp_getI (jj := 36) (ci := 8) (n := 3) (by decide +kernel) (by decide +kernel) (by decide +kernel) hS h
    have h := sp_istore_n (j := 3) (ls' := [.ref o0, .int i1, .int i2, .int (gI w o0 3), pm_dead]) (by decide +kernel) (Nat.le_of_ble_eq_true rfl) rfl h
    have h := sp_onk (i := .iload_n 1) (by decide +kernel) rfl h
    rcases sp_if_ne (mi := 17) (pc := 28) (off := 7) (t := 35) (by decide +kernel) (by decide) rfl h with ⟨hc, h⟩ | ⟨hc, h⟩
    · refine ite_f hc ?_
      have h := sp_iconst (n := 3) (v := 3) (by decide +kernel) (by decide +kernel) h
      have h := sp_istore (j := 4) (ls' := [.ref o0, .int i1, .int i2, .int (gI w o0 3), .int 3]) (by decide +kernel) (Nat.le_of_ble_eq_true rfl) rfl h
      have h := sp_onk (i := .iload_n 2) (by decide +kernel) rfl h
      have h := sp_iconst (n := (-1)) (v := (-1)) (by decide +kernel) (by decide +kernel) h
      rcases sp_icmp_ne (mi := 17) (pc := 40) (off := 15) (t := 55) (by decide +kernel) (by decide) rfl h with ⟨hc, h⟩ | ⟨hc, h⟩
      · refine ite_f hc ?_
        have h := sp_onk (i := .iload_n 2) (by decide +kernel) rfl h
        rcases sp_if_lt (mi := 17) (pc := 56) (off := 12) (t := 68) (by decide +kernel) (by decide) rfl h with ⟨hc, h⟩ | ⟨hc, h⟩
        · refine ite_t hc ?_
          exact h
        · refine ite_f hc ?_
          have h := sp_onk (i := .iload_n 2) (by decide +kernel) rfl h
          have h := sp_onk (i := .iload_n 3) (by decide +kernel) rfl h
          rcases sp_icmp_ge (mi := 17) (pc := 61) (off := 7) (t := 68) (by decide +kernel) (by decide) rfl h with ⟨hc, h⟩ | ⟨hc, h⟩
          · refine ite_t hc ?_
            exact h
          · refine ite_f hc ?_
            have h := sp_onk (i := .iload_n 2) (by decide +kernel) rfl h
            have h := sp_goto (mi := 17) (pc := 65) (off := 4) (t := 69) (by decide +kernel) (by decide) rfl h
            exact sp_iret (by decide +kernel) h
      · refine ite_t (Classical.not_not.mp hc) ?_
        have h := sp_onk (i := .iload_n 3) (by decide +kernel) rfl h
        have h := sp_onk (i := .iload 4) (by decide +kernel) rfl h
        rcases sp_icmp_ge (mi := 17) (pc := 46) (off := 7) (t := 53) (by decide +kernel) (by decide) rfl h with ⟨hc, h⟩ | ⟨hc, h⟩
        · refine ite_t hc ?_
          have h := sp_iconst (n := (-1)) (v := (-1)) (by decide +kernel) (by decide +kernel) h
          exact sp_iret (by decide +kernel) h
        · refine ite_f hc ?_
          have h := sp_onk (i := .iload_n 3) (by decide +kernel) rfl h
          have h := sp_goto (mi := 17) (pc := 50) (off := 4) (t := 54) (by decide +kernel) (by decide) rfl h
          exact sp_iret (by decide +kernel) h
    · refine ite_t (Classical.not_not.mp hc) ?_
      have h := sp_iconst (n := 2) (v := 2) (by decide +kernel) (by decide +kernel) h
      have h := sp_goto (mi := 17) (pc := 32) (off := 4) (t := 36) (by decide +kernel) (by decide) rfl h
      have h := sp_istore (j := 4) (ls' := [.ref o0, .int i1, .int i2, .int (gI w o0 3), .int 2]) (by decide +kernel) (Nat.le_of_ble_eq_true rfl) rfl h
      have h := sp_onk (i := .iload_n 2) (by decide +kernel) rfl h
      have h := sp_iconst (n := (-1)) (v := (-1)) (by decide +kernel) (by decide +kernel) h
      rcases sp_icmp_ne (mi := 17) (pc := 40) (off := 15) (t := 55) (by decide +kernel) (by decide) rfl h with ⟨hc, h⟩ | ⟨hc, h⟩
      · refine ite_f hc ?_
        have h := sp_onk (i := .iload_n 2) (by decide +kernel) rfl h
        rcases sp_if_lt (mi := 17) (pc := 56) (off := 12) (t := 68) (by decide +kernel) (by decide) rfl h with ⟨hc, h⟩ | ⟨hc, h⟩
        · refine ite_t hc ?_
          exact h
        · refine ite_f hc ?_
          have h := sp_onk (i := .iload_n 2) (by decide +kernel) rfl h
          have h := sp_onk (i := .iload_n 3) (by decide +kernel) rfl h
          rcases sp_icmp_ge (mi := 17) (pc := 61) (off := 7) (t := 68) (by decide +kernel) (by decide) rfl h with ⟨hc, h⟩ | ⟨hc, h⟩
          · refine ite_t hc ?_
            exact h
          · refine ite_f hc ?_
            have h := sp_onk (i := .iload_n 2) (by decide +kernel) rfl h
            have h := sp_goto (mi := 17) (pc := 65) (off := 4) (t := 69) (by decide +kernel) (by decide) rfl h
            exact sp_iret (by decide +kernel) h
      · refine ite_t (Classical.not_not.mp hc) ?_
        have h := sp_onk (i := .iload_n 3) (by decide +kernel) rfl h
        have h := sp_onk (i := .iload 4) (by decide +kernel) rfl h
        rcases sp_icmp_ge (mi := 17) (pc := 46) (off := 7) (t := 53) (by decide +kernel) (by decide) rfl h with ⟨hc, h⟩ | ⟨hc, h⟩
        · refine ite_t hc ?_
          have h := sp_iconst (n := (-1)) (v := (-1)) (by decide +kernel) (by decide +kernel) h
          exact sp_iret (by decide +kernel) h
        · refine ite_f hc ?_
          have h := sp_onk (i := .iload_n 3) (by decide +kernel) rfl h
          have h := sp_goto (mi := 17) (pc := 50) (off := 4) (t := 54) (by decide +kernel) (by decide) rfl h
          exact sp_iret (by decide +kernel) h
  · refine ite_t (Classical.not_not.mp hc) ?_
    have h := sp_onk (i := .aload_n 0) (by decide +kernel) rfl h
    have h := sp_getI (jj := 33) (ci := 8) (n := 2) (by decide +kernel) (by decide +kernel) (by decide +kernel) hS h
    have h := sp_goto (mi := 17) (pc := 19) (off := 7) (t := 26) (by decide +kernel) (by decide) rfl h
    have h := sp_istore_n (j := 3) (ls' := [.ref o0, .int i1, .int i2, .int (gI w o0 2), pm_dead]) (by decide +kernel) (Nat.le_of_ble_eq_true rfl) rfl h
    have h := sp_onk (i := .iload_n 1) (by decide +kernel) rfl h
    rcases sp_if_ne (mi := 17) (pc := 28) (off := 7) (t := 35) (by decide +kernel) (by decide) rfl h with ⟨hc, h⟩ | ⟨hc, h⟩
    · refine ite_f hc ?_
      have h := sp_iconst (n := 3) (v := 3) (by decide +kernel) (by decide +kernel) h
      have h := sp_istore (j := 4) (ls' := [.ref o0, .int i1, .int i2, .int (gI w o0 2), .int 3]) (by decide +kernel) (Nat.le_of_ble_eq_true rfl) rfl h
      have h := sp_onk (i := .iload_n 2) (by decide +kernel) rfl h
      have h := sp_iconst (n := (-1)) (v := (-1)) (by decide +kernel) (by decide +kernel) h
      rcases sp_icmp_ne (mi := 17) (pc := 40) (off := 15) (t := 55) (by decide +kernel) (by decide) rfl h with ⟨hc, h⟩ | ⟨hc, h⟩
      · refine ite_f hc ?_
        have h := sp_onk (i := .iload_n 2) (by decide +kernel) rfl h
        rcases sp_if_lt (mi := 17) (pc := 56) (off := 12) (t := 68) (by decide +kernel) (by decide) rfl h with ⟨hc, h⟩ | ⟨hc, h⟩
        · refine ite_t hc ?_
          exact h
        · refine ite_f hc ?_
          have h := sp_onk (i := .iload_n 2) (by decide +kernel) rfl h
          have h := sp_onk (i := .iload_n 3) (by decide +kernel) rfl h
          rcases sp_icmp_ge (mi := 17) (pc := 61) (off := 7) (t := 68) (by decide +kernel) (by decide) rfl h with ⟨hc, h⟩ | ⟨hc, h⟩
          · refine ite_t hc ?_
            exact h
          · refine ite_f hc ?_
            have h := sp_onk (i := .iload_n 2) (by decide +kernel) rfl h
            have h := sp_goto (mi := 17) (pc := 65) (off := 4) (t := 69) (by decide +kernel) (by decide) rfl h
            exact sp_iret (by decide +kernel) h
      · refine ite_t (Classical.not_not.mp hc) ?_
        have h := sp_onk (i := .iload_n 3) (by decide +kernel) rfl h
        have h := sp_onk (i := .iload 4) (by decide +kernel) rfl h
        rcases sp_icmp_ge (mi := 17) (pc := 46) (off := 7) (t := 53) (by decide +kernel) (by decide) rfl h with ⟨hc, h⟩ | ⟨hc, h⟩
        · refine ite_t hc ?_
          have h := sp_iconst (n := (-1)) (v := (-1)) (by decide +kernel) (by decide +kernel) h
          exact sp_iret (by decide +kernel) h
        · refine ite_f hc ?_
          have h := sp_onk (i := .iload_n 3) (by decide +kernel) rfl h
          have h := sp_goto (mi := 17) (pc := 50) (off := 4) (t := 54) (by decide +kernel) (by decide) rfl h
          exact sp_iret (by decide +kernel) h
    · refine ite_t (Classical.not_not.mp hc) ?_
      have h := sp_iconst (n := 2) (v := 2) (by decide +kernel) (by decide +kernel) h
      have h := sp_goto (mi := 17) (pc := 32) (off := 4) (t := 36) (by decide +kernel) (by decide) rfl h
      have h := sp_istore (j := 4) (ls' := [.ref o0, .int i1, .int i2, .int (gI w o0 2), .int 2]) (by decide +kernel) (Nat.le_of_ble_eq_true rfl) rfl h
      have h := sp_onk (i := .iload_n 2) (by decide +kernel) rfl h
      have h := sp_iconst (n := (-1)) (v := (-1)) (by decide +kernel) (by decide +kernel) h
      rcases sp_icmp_ne (mi := 17) (pc := 40) (off := 15) (t := 55) (by decide +kernel) (by decide) rfl h with ⟨hc, h⟩ | ⟨hc, h⟩
      · refine ite_f hc ?_
        have h := sp_onk (i := .iload_n 2) (by decide +kernel) rfl h
        rcases sp_if_lt (mi := 17) (pc := 56) (off := 12) (t := 68) (by decide +kernel) (by decide) rfl h with ⟨hc, h⟩ | ⟨hc, h⟩
        · refine ite_t hc ?_
          exact h
        · refine ite_f hc ?_
          have h := sp_onk (i := .iload_n 2) (by decide +kernel) rfl h
          have h := sp_onk (i := .iload_n 3) (by decide +kernel) rfl h
          rcases sp_icmp_ge (mi := 17) (pc := 61) (off := 7) (t := 68) (by decide +kernel) (by decide) rfl h with ⟨hc, h⟩ | ⟨hc, h⟩
          · refine ite_t hc ?_
            exact h
          · refine ite_f hc ?_
            have h := sp_onk (i := .iload_n 2) (by decide +kernel) rfl h
            have h := sp_goto (mi := 17) (pc := 65) (off := 4) (t := 69) (by decide +kernel) (by decide) rfl h
            exact sp_iret (by decide +kernel) h
      · refine ite_t (Classical.not_not.mp hc) ?_
        have h := sp_onk (i := .iload_n 3) (by decide +kernel) rfl h
        have h := sp_onk (i := .iload 4) (by decide +kernel) rfl h
        rcases sp_icmp_ge (mi := 17) (pc := 46) (off := 7) (t := 53) (by decide +kernel) (by decide) rfl h with ⟨hc, h⟩ | ⟨hc, h⟩
        · refine ite_t hc ?_
          have h := sp_iconst (n := (-1)) (v := (-1)) (by decide +kernel) (by decide +kernel) h
          exact sp_iret (by decide +kernel) h
        · refine ite_f hc ?_
          have h := sp_onk (i := .iload_n 3) (by decide +kernel) rfl h
          have h := sp_goto (mi := 17) (pc := 50) (off := 4) (t := 54) (by decide +kernel) (by decide) rfl h
          exact sp_iret (by decide +kernel) h
set_option maxRecDepth 20000 in
set_option maxHeartbeats 2000000 in
theorem U17_68 {X : pm_X} {k : Nat} {w w' : pm_W} {r : Option Value} {o0 : Nat} {i1 : Int32} {i2 : Int32} {i3 : Int32} {i4 : Int32} (hS : SK w) (h : PS X (k + 1) 17 68 [.ref o0, .int i1, .int i2, .int i3, .int i4] [] w r w') : r = some (.int (-1)) ∧ w' = w := by
  have h := sp_iconst1 (n := (-1)) (v := (-1)) (by decide +kernel) (by decide +kernel) h
  exact sp_iret (by decide +kernel) h
set_option maxRecDepth 20000 in
set_option maxHeartbeats 2000000 in
theorem U55_0 {X : pm_X} {k : Nat} {w w' : pm_W} {r : Option Value} {a : Nat} {p1 : Int32} {p2 : Int32} (hS : SK w) (h : PS X (k + 1) 55 0 [.ref a, .int p1, .int p2, .ref 23] [] w r w') : if p1 = 0 then (iN p2 (gQ w (gR w a 0)).length ∧ (∃ (r4 : Option Value) (w5 : pm_W), PS X k 56 0 [.ref (qG w (gR w a 0) p2), .ref 24] [] w r4 w5 ∧ (r4 = none → SK w5 → (∀ w6 : pm_W, w6 = sI w5 a 2 (if (gI w5 a 2) < (p2 + 1) then (p2 + 1) else (gI w5 a 2)) → (r = none ∧ w' = w6))))) else (iN p2 (gQ w (gR w a 1)).length ∧ (∃ (r1 : Option Value) (w2 : pm_W), PS X k 57 0 [.ref (qG w (gR w a 1) p2), .ref 29] [] w r1 w2 ∧ (r1 = none → SK w2 → (∀ w3 : pm_W, w3 = sI w2 a 3 (if (gI w2 a 3) < (p2 + 1) then (p2 + 1) else (gI w2 a 3)) → (r = none ∧ w' = w3))))) := by
  have h := sp_one (i := .iload_n 1) (by decide +kernel) rfl h
  rcases sp_if_ne (mi := 55) (pc := 1) (off := 33) (t := 34) (by decide +kernel) (by decide) rfl h with ⟨hc, h⟩ | ⟨hc, h⟩
  · refine ite_f hc ?_
    have h := sp_onk (i := .aload_n 0) (by decide +kernel) rfl h
    have h := sp_getR (jj := 19) (ci := 8) (n := 1) (by decide +kernel) (by decide +kernel) (by decide +kernel) hS h
    have h := sp_onk (i := .iload_n 2) (by decide +kernel) rfl h
    obtain ⟨hi, h⟩ := sp_aald (by decide +kernel) hS h
    refine ⟨hi, ?_⟩
    have h := sp_onk (i := .aload_n 3) (by decide +kernel) rfl h
    have h := sp_getK (jj := 70) (ci := 4) (n := 1) (b := 29) (by decide +kernel) (by decide +kernel) (by decide +kernel) (by decide +kernel) (by decide) hS h
    obtain ⟨r1, w2, hc, h⟩ := sp_callV (jj := 43) (mj := 57) (n := 1) (v := .ref (qG w (gR w a 1) p2)) (args := [.ref 29]) (ls' := [.ref (qG w (gR w a 1) p2), .ref 29]) (by decide +kernel) (by decide +kernel) rfl rfl rfl h
    refine ⟨r1, w2, hc, fun er hSw2 => ?_⟩
    subst er
    have h : PS X k 55 47 [.ref a, .int p1, .int p2, .ref 23] [] w2 r w' := h
    have h := sp_onk (i := .aload_n 0) (by decide +kernel) rfl h
    have h := sp_onk (i := .aload_n 0) (by decide +kernel) rfl h
    have h := sp_getI (jj := 36) (ci := 8) (n := 3) (by decide +kernel) (by decide +kernel) (by decide +kernel) hSw2 h
    have h := sp_onk (i := .iload_n 2) (by decide +kernel) rfl h
    have h := sp_iconst (n := 1) (v := 1) (by decide +kernel) (by decide +kernel) h
    have h := sp_onk (i := .iadd) (by decide +kernel) rfl h
    have h := sp_max (j := 64) (by decide +kernel) (by decide +kernel) (by decide +kernel) h
    have h := sp_putI (jj := 36) (ci := 8) (n := 3) (ty := .int) (by decide +kernel) (by decide +kernel) (by decide +kernel) hSw2 h
    intro w3 ew3
    rw [← ew3] at h
    have hSw3 : SK w3 := by rw [ew3]; exact SK_sI hSw2
    exact sp_vret (by decide +kernel) h
  · refine ite_t (Classical.not_not.mp hc) ?_
    have h := sp_onk (i := .aload_n 0) (by decide +kernel) rfl h
    have h := sp_getR (jj := 11) (ci := 8) (n := 0) (by decide +kernel) (by decide +kernel) (by decide +kernel) hS h
    have h := sp_onk (i := .iload_n 2) (by decide +kernel) rfl h
    obtain ⟨hi, h⟩ := sp_aald (by decide +kernel) hS h
    refine ⟨hi, ?_⟩
    have h := sp_onk (i := .aload_n 3) (by decide +kernel) rfl h
    have h := sp_getK (jj := 58) (ci := 4) (n := 0) (b := 24) (by decide +kernel) (by decide +kernel) (by decide +kernel) (by decide +kernel) (by decide) hS h
    obtain ⟨r4, w5, hc, h⟩ := sp_callV (jj := 39) (mj := 56) (n := 1) (v := .ref (qG w (gR w a 0) p2)) (args := [.ref 24]) (ls' := [.ref (qG w (gR w a 0) p2), .ref 24]) (by decide +kernel) (by decide +kernel) rfl rfl rfl h
    refine ⟨r4, w5, hc, fun er hSw5 => ?_⟩
    subst er
    have h : PS X k 55 17 [.ref a, .int p1, .int p2, .ref 23] [] w5 r w' := h
    have h := sp_onk (i := .aload_n 0) (by decide +kernel) rfl h
    have h := sp_onk (i := .aload_n 0) (by decide +kernel) rfl h
    have h := sp_getI (jj := 33) (ci := 8) (n := 2) (by decide +kernel) (by decide +kernel) (by decide +kernel) hSw5 h
    have h := sp_onk (i := .iload_n 2) (by decide +kernel) rfl h
    have h := sp_iconst (n := 1) (v := 1) (by decide +kernel) (by decide +kernel) h
    have h := sp_onk (i := .iadd) (by decide +kernel) rfl h
    have h := sp_max (j := 64) (by decide +kernel) (by decide +kernel) (by decide +kernel) h
    have h := sp_putI (jj := 33) (ci := 8) (n := 2) (ty := .int) (by decide +kernel) (by decide +kernel) (by decide +kernel) hSw5 h
    intro w6 ew6
    rw [← ew6] at h
    have hSw6 : SK w6 := by rw [ew6]; exact SK_sI hSw5
    have h := sp_goto (mi := 55) (pc := 31) (off := 30) (t := 61) (by decide +kernel) (by decide) rfl h
    exact sp_vret (by decide +kernel) h
set_option maxRecDepth 20000 in
set_option maxHeartbeats 2000000 in
theorem U56_0 {X : pm_X} {k : Nat} {w w' : pm_W} {r : Option Value} {a : Nat} {q1 : Nat} (hS : SK w) (h : PS X (k + 1) 56 0 [.ref a, .ref q1] [] w r w') : ∀ w1 : pm_W, w1 = sI w a 0 (gI w q1 0) → (∀ w2 : pm_W, w2 = sI w1 a 1 (gI w1 q1 1) → (∀ w3 : pm_W, w3 = sI w2 a 2 (gI w2 q1 2) → (cpI w3 (gR w3 q1 3) (gR w3 a 3) 0 0 81 ∧ (∀ w4 : pm_W, w4 = cpS w3 (gR w3 q1 3) (gR w3 a 3) 0 0 81 → (cpI w4 (gR w4 q1 4) (gR w4 a 4) 0 0 9 ∧ (∀ w5 : pm_W, w5 = cpS w4 (gR w4 q1 4) (gR w4 a 4) 0 0 9 → (cpI w5 (gR w5 q1 5) (gR w5 a 5) 0 0 9 ∧ (∀ w6 : pm_W, w6 = cpS w5 (gR w5 q1 5) (gR w5 a 5) 0 0 9 → (cpI w6 (gR w6 q1 6) (gR w6 a 6) 0 0 28 ∧ (∀ w7 : pm_W, w7 = cpS w6 (gR w6 q1 6) (gR w6 a 6) 0 0 28 → (r = none ∧ w' = w7))))))))))) := by
  have h := sp_one (i := .aload_n 0) (by decide +kernel) rfl h
  have h := sp_onk (i := .aload_n 1) (by decide +kernel) rfl h
  have h := sp_getI (jj := 9) (ci := 9) (n := 0) (by decide +kernel) (by decide +kernel) (by decide +kernel) hS h
  have h := sp_putI (jj := 9) (ci := 9) (n := 0) (ty := .int) (by decide +kernel) (by decide +kernel) (by decide +kernel) hS h
  intro w1 ew1
  rw [← ew1] at h
  have hSw1 : SK w1 := by rw [ew1]; exact SK_sI hS
  have h := sp_onk (i := .aload_n 0) (by decide +kernel) rfl h
  have h := sp_onk (i := .aload_n 1) (by decide +kernel) rfl h
  have h := sp_getI (jj := 28) (ci := 9) (n := 1) (by decide +kernel) (by decide +kernel) (by decide +kernel) hSw1 h
  have h := sp_putI (jj := 28) (ci := 9) (n := 1) (ty := .int) (by decide +kernel) (by decide +kernel) (by decide +kernel) hSw1 h
  intro w2 ew2
  rw [← ew2] at h
  have hSw2 : SK w2 := by rw [ew2]; exact SK_sI hSw1
  have h := sp_onk (i := .aload_n 0) (by decide +kernel) rfl h
  have h := sp_onk (i := .aload_n 1) (by decide +kernel) rfl h
  have h := sp_getI (jj := 31) (ci := 9) (n := 2) (by decide +kernel) (by decide +kernel) (by decide +kernel) hSw2 h
  have h := sp_putI (jj := 31) (ci := 9) (n := 2) (ty := .int) (by decide +kernel) (by decide +kernel) (by decide +kernel) hSw2 h
  intro w3 ew3
  rw [← ew3] at h
  have hSw3 : SK w3 := by rw [ew3]; exact SK_sI hSw2
  have h := sp_onk (i := .aload_n 1) (by decide +kernel) rfl h
  have h := sp_getR (jj := 15) (ci := 9) (n := 3) (by decide +kernel) (by decide +kernel) (by decide +kernel) hSw3 h
  have h := sp_iconst (n := 0) (v := 0) (by decide +kernel) (by decide +kernel) h
  have h := sp_onk (i := .aload_n 0) (by decide +kernel) rfl h
  have h := sp_getR (jj := 15) (ci := 9) (n := 3) (by decide +kernel) (by decide +kernel) (by decide +kernel) hSw3 h
  have h := sp_iconst (n := 0) (v := 0) (by decide +kernel) (by decide +kernel) h
  have h := sp_bipush (n := 81) (v := 81) (by decide +kernel) (by decide +kernel) h
  obtain ⟨hi, h⟩ := sp_copy (j := 40) (by decide +kernel) (by decide +kernel) (by decide +kernel) h
  refine ⟨hi, ?_⟩
  intro w4 ew4
  rw [← ew4] at h
  have hSw4 : SK w4 := by rw [ew4]; exact SK_cpS hi hSw3
  have h := sp_onk (i := .aload_n 1) (by decide +kernel) rfl h
  have h := sp_getR (jj := 19) (ci := 9) (n := 4) (by decide +kernel) (by decide +kernel) (by decide +kernel) hSw4 h
  have h := sp_iconst (n := 0) (v := 0) (by decide +kernel) (by decide +kernel) h
  have h := sp_onk (i := .aload_n 0) (by decide +kernel) rfl h
  have h := sp_getR (jj := 19) (ci := 9) (n := 4) (by decide +kernel) (by decide +kernel) (by decide +kernel) hSw4 h
  have h := sp_iconst (n := 0) (v := 0) (by decide +kernel) (by decide +kernel) h
  have h := sp_bipush (n := 9) (v := 9) (by decide +kernel) (by decide +kernel) h
  obtain ⟨hi, h⟩ := sp_copy (j := 40) (by decide +kernel) (by decide +kernel) (by decide +kernel) h
  refine ⟨hi, ?_⟩
  intro w5 ew5
  rw [← ew5] at h
  have hSw5 : SK w5 := by rw [ew5]; exact SK_cpS hi hSw4
  have h := sp_onk (i := .aload_n 1) (by decide +kernel) rfl h
  have h := sp_getR (jj := 22) (ci := 9) (n := 5) (by decide +kernel) (by decide +kernel) (by decide +kernel) hSw5 h
  have h := sp_iconst (n := 0) (v := 0) (by decide +kernel) (by decide +kernel) h
  have h := sp_onk (i := .aload_n 0) (by decide +kernel) rfl h
  have h := sp_getR (jj := 22) (ci := 9) (n := 5) (by decide +kernel) (by decide +kernel) (by decide +kernel) hSw5 h
  have h := sp_iconst (n := 0) (v := 0) (by decide +kernel) (by decide +kernel) h
  have h := sp_bipush (n := 9) (v := 9) (by decide +kernel) (by decide +kernel) h
  obtain ⟨hi, h⟩ := sp_copy (j := 40) (by decide +kernel) (by decide +kernel) (by decide +kernel) h
  refine ⟨hi, ?_⟩
  intro w6 ew6
  rw [← ew6] at h
  have hSw6 : SK w6 := by rw [ew6]; exact SK_cpS hi hSw5
  have h := sp_onk (i := .aload_n 1) (by decide +kernel) rfl h
  have h := sp_getR (jj := 25) (ci := 9) (n := 6) (by decide +kernel) (by decide +kernel) (by decide +kernel) hSw6 h
  have h := sp_iconst (n := 0) (v := 0) (by decide +kernel) (by decide +kernel) h
  have h := sp_onk (i := .aload_n 0) (by decide +kernel) rfl h
  have h := sp_getR (jj := 25) (ci := 9) (n := 6) (by decide +kernel) (by decide +kernel) (by decide +kernel) hSw6 h
  have h := sp_iconst (n := 0) (v := 0) (by decide +kernel) (by decide +kernel) h
  have h := sp_bipush (n := 28) (v := 28) (by decide +kernel) (by decide +kernel) h
  obtain ⟨hi, h⟩ := sp_copy (j := 40) (by decide +kernel) (by decide +kernel) (by decide +kernel) h
  refine ⟨hi, ?_⟩
  intro w7 ew7
  rw [← ew7] at h
  have hSw7 : SK w7 := by rw [ew7]; exact SK_cpS hi hSw6
  exact sp_vret (by decide +kernel) h
set_option maxRecDepth 20000 in
set_option maxHeartbeats 2000000 in
theorem U57_0 {X : pm_X} {k : Nat} {w w' : pm_W} {r : Option Value} {a : Nat} {q1 : Nat} (hS : SK w) (h : PS X (k + 1) 57 0 [.ref a, .ref q1] [] w r w') : ∀ w1 : pm_W, w1 = sI w a 0 (gI w q1 0) → (cpI w1 (gR w1 q1 1) (gR w1 a 1) 0 0 270 ∧ (∀ w2 : pm_W, w2 = cpS w1 (gR w1 q1 1) (gR w1 a 1) 0 0 270 → (r = none ∧ w' = w2))) := by
  have h := sp_one (i := .aload_n 0) (by decide +kernel) rfl h
  have h := sp_onk (i := .aload_n 1) (by decide +kernel) rfl h
  have h := sp_getI (jj := 15) (ci := 5) (n := 0) (by decide +kernel) (by decide +kernel) (by decide +kernel) hS h
  have h := sp_putI (jj := 15) (ci := 5) (n := 0) (ty := .int) (by decide +kernel) (by decide +kernel) (by decide +kernel) hS h
  intro w1 ew1
  rw [← ew1] at h
  have hSw1 : SK w1 := by rw [ew1]; exact SK_sI hS
  have h := sp_onk (i := .aload_n 1) (by decide +kernel) rfl h
  have h := sp_getR (jj := 9) (ci := 5) (n := 1) (by decide +kernel) (by decide +kernel) (by decide +kernel) hSw1 h
  have h := sp_iconst (n := 0) (v := 0) (by decide +kernel) (by decide +kernel) h
  have h := sp_onk (i := .aload_n 0) (by decide +kernel) rfl h
  have h := sp_getR (jj := 9) (ci := 5) (n := 1) (by decide +kernel) (by decide +kernel) (by decide +kernel) hSw1 h
  have h := sp_iconst (n := 0) (v := 0) (by decide +kernel) (by decide +kernel) h
  have h := sp_sipush (n := 270) (v := 270) (by decide +kernel) (by decide +kernel) h
  obtain ⟨hi, h⟩ := sp_copy (j := 19) (by decide +kernel) (by decide +kernel) (by decide +kernel) h
  refine ⟨hi, ?_⟩
  intro w2 ew2
  rw [← ew2] at h
  have hSw2 : SK w2 := by rw [ew2]; exact SK_cpS hi hSw1
  exact sp_vret (by decide +kernel) h
set_option maxRecDepth 20000 in
set_option maxHeartbeats 2000000 in
theorem U60_0 {X : pm_X} {k : Nat} {w w' : pm_W} {r : Option Value} {a : Nat} {p1 : Int32} (hS : SK w) (h : PS X (k + 1) 60 0 [.ref a, .int p1] [] w r w') : if p1 < 0 then (r = some (.null) ∧ w' = w) else (if (gI w a 2) ≤ p1 then (r = some (.null) ∧ w' = w) else (iN p1 (gQ w (gR w a 0)).length ∧ (r = some (.ref (qG w (gR w a 0) p1)) ∧ w' = w))) := by
  have h := sp_one (i := .iload_n 1) (by decide +kernel) rfl h
  rcases sp_if_lt (mi := 60) (pc := 1) (off := 20) (t := 21) (by decide +kernel) (by decide) rfl h with ⟨hc, h⟩ | ⟨hc, h⟩
  · refine ite_t hc ?_
    have h := sp_onk (i := .aconst_null) (by decide +kernel) rfl h
    exact sp_aret (by decide +kernel) h
  · refine ite_f hc ?_
    have h := sp_onk (i := .iload_n 1) (by decide +kernel) rfl h
    have h := sp_onk (i := .aload_n 0) (by decide +kernel) rfl h
    have h := sp_getI (jj := 33) (ci := 8) (n := 2) (by decide +kernel) (by decide +kernel) (by decide +kernel) hS h
    rcases sp_icmp_ge (mi := 60) (pc := 9) (off := 12) (t := 21) (by decide +kernel) (by decide) rfl h with ⟨hc, h⟩ | ⟨hc, h⟩
    · refine ite_t hc ?_
      have h := sp_onk (i := .aconst_null) (by decide +kernel) rfl h
      exact sp_aret (by decide +kernel) h
    · refine ite_f hc ?_
      have h := sp_onk (i := .aload_n 0) (by decide +kernel) rfl h
      have h := sp_getR (jj := 11) (ci := 8) (n := 0) (by decide +kernel) (by decide +kernel) (by decide +kernel) hS h
      have h := sp_onk (i := .iload_n 1) (by decide +kernel) rfl h
      obtain ⟨hi, h⟩ := sp_aald (by decide +kernel) hS h
      refine ⟨hi, ?_⟩
      have h := sp_goto (mi := 60) (pc := 18) (off := 4) (t := 22) (by decide +kernel) (by decide) rfl h
      exact sp_aret (by decide +kernel) h
set_option maxRecDepth 20000 in
set_option maxHeartbeats 2000000 in
theorem U61_0 {X : pm_X} {k : Nat} {w w' : pm_W} {r : Option Value} {a : Nat} {p1 : Int32} (hS : SK w) (h : PS X (k + 1) 61 0 [.ref a, .int p1] [] w r w') : if p1 < 0 then (r = some (.int 0) ∧ w' = w) else (if (gI w a 0) ≤ p1 then (r = some (.int 0) ∧ w' = w) else (r = some (.int 1) ∧ w' = w)) := by
  have h := sp_one (i := .iload_n 1) (by decide +kernel) rfl h
  rcases sp_if_lt (mi := 61) (pc := 1) (off := 15) (t := 16) (by decide +kernel) (by decide) rfl h with ⟨hc, h⟩ | ⟨hc, h⟩
  · refine ite_t hc ?_
    have h := sp_iconst (n := 0) (v := 0) (by decide +kernel) (by decide +kernel) h
    exact sp_iret (by decide +kernel) h
  · refine ite_f hc ?_
    have h := sp_onk (i := .iload_n 1) (by decide +kernel) rfl h
    have h := sp_onk (i := .aload_n 0) (by decide +kernel) rfl h
    have h := sp_getI (jj := 9) (ci := 9) (n := 0) (by decide +kernel) (by decide +kernel) (by decide +kernel) hS h
    rcases sp_icmp_ge (mi := 61) (pc := 9) (off := 7) (t := 16) (by decide +kernel) (by decide) rfl h with ⟨hc, h⟩ | ⟨hc, h⟩
    · refine ite_t hc ?_
      have h := sp_iconst (n := 0) (v := 0) (by decide +kernel) (by decide +kernel) h
      exact sp_iret (by decide +kernel) h
    · refine ite_f hc ?_
      have h := sp_iconst (n := 1) (v := 1) (by decide +kernel) (by decide +kernel) h
      have h := sp_goto (mi := 61) (pc := 13) (off := 4) (t := 17) (by decide +kernel) (by decide) rfl h
      exact sp_iret (by decide +kernel) h
set_option maxRecDepth 20000 in
set_option maxHeartbeats 2000000 in
theorem U64_0 {X : pm_X} {k : Nat} {w w' : pm_W} {r : Option Value} {a : Nat} {p1 : Int32} (hS : SK w) (h : PS X (k + 1) 64 0 [.ref a, .int p1] [] w r w') : if p1 < 0 then (r = some (.int 0) ∧ w' = w) else (if (gI w a 2) ≤ p1 then (r = some (.int 0) ∧ w' = w) else (r = some (.int 1) ∧ w' = w)) := by
  have h := sp_one (i := .iload_n 1) (by decide +kernel) rfl h
  rcases sp_if_lt (mi := 64) (pc := 1) (off := 15) (t := 16) (by decide +kernel) (by decide) rfl h with ⟨hc, h⟩ | ⟨hc, h⟩
  · refine ite_t hc ?_
    have h := sp_iconst (n := 0) (v := 0) (by decide +kernel) (by decide +kernel) h
    exact sp_iret (by decide +kernel) h
  · refine ite_f hc ?_
    have h := sp_onk (i := .iload_n 1) (by decide +kernel) rfl h
    have h := sp_onk (i := .aload_n 0) (by decide +kernel) rfl h
    have h := sp_getI (jj := 31) (ci := 9) (n := 2) (by decide +kernel) (by decide +kernel) (by decide +kernel) hS h
    rcases sp_icmp_ge (mi := 64) (pc := 9) (off := 7) (t := 16) (by decide +kernel) (by decide) rfl h with ⟨hc, h⟩ | ⟨hc, h⟩
    · refine ite_t hc ?_
      have h := sp_iconst (n := 0) (v := 0) (by decide +kernel) (by decide +kernel) h
      exact sp_iret (by decide +kernel) h
    · refine ite_f hc ?_
      have h := sp_iconst (n := 1) (v := 1) (by decide +kernel) (by decide +kernel) h
      have h := sp_goto (mi := 64) (pc := 13) (off := 4) (t := 17) (by decide +kernel) (by decide) rfl h
      exact sp_iret (by decide +kernel) h
set_option maxRecDepth 20000 in
set_option maxHeartbeats 2000000 in
theorem U65_0 {X : pm_X} {k : Nat} {w w' : pm_W} {r : Option Value} {a : Nat} {p1 : Int32} {p2 : Int32} (hS : SK w) (h : PS X (k + 1) 65 0 [.ref a, .int p1, .int p2] [] w r w') : aI w (gR w a 6) ((p1 * 4) + p2) ∧ (r = some (.int (aG w (gR w a 6) ((p1 * 4) + p2))) ∧ w' = w) := by
  have h := sp_one (i := .aload_n 0) (by decide +kernel) rfl h
  have h := sp_getR (jj := 25) (ci := 9) (n := 6) (by decide +kernel) (by decide +kernel) (by decide +kernel) hS h
  have h := sp_onk (i := .iload_n 1) (by decide +kernel) rfl h
  have h := sp_iconst (n := 4) (v := 4) (by decide +kernel) (by decide +kernel) h
  have h := sp_onk (i := .imul) (by decide +kernel) rfl h
  have h := sp_onk (i := .iload_n 2) (by decide +kernel) rfl h
  have h := sp_onk (i := .iadd) (by decide +kernel) rfl h
  obtain ⟨hi, h⟩ := sp_iald (by decide +kernel) h
  refine ⟨hi, ?_⟩
  exact sp_iret (by decide +kernel) h
set_option maxRecDepth 20000 in
set_option maxHeartbeats 2000000 in
theorem U67_0 {X : pm_X} {k : Nat} {w w' : pm_W} {r : Option Value} {a : Nat} {p1 : Int32} (hS : SK w) (h : PS X (k + 1) 67 0 [.ref a, .int p1] [] w r w') : if p1 < 0 then (r = some (.null) ∧ w' = w) else (if (gI w a 3) ≤ p1 then (r = some (.null) ∧ w' = w) else (iN p1 (gQ w (gR w a 1)).length ∧ (r = some (.ref (qG w (gR w a 1) p1)) ∧ w' = w))) := by
  have h := sp_one (i := .iload_n 1) (by decide +kernel) rfl h
  rcases sp_if_lt (mi := 67) (pc := 1) (off := 20) (t := 21) (by decide +kernel) (by decide) rfl h with ⟨hc, h⟩ | ⟨hc, h⟩
  · refine ite_t hc ?_
    have h := sp_onk (i := .aconst_null) (by decide +kernel) rfl h
    exact sp_aret (by decide +kernel) h
  · refine ite_f hc ?_
    have h := sp_onk (i := .iload_n 1) (by decide +kernel) rfl h
    have h := sp_onk (i := .aload_n 0) (by decide +kernel) rfl h
    have h := sp_getI (jj := 36) (ci := 8) (n := 3) (by decide +kernel) (by decide +kernel) (by decide +kernel) hS h
    rcases sp_icmp_ge (mi := 67) (pc := 9) (off := 12) (t := 21) (by decide +kernel) (by decide) rfl h with ⟨hc, h⟩ | ⟨hc, h⟩
    · refine ite_t hc ?_
      have h := sp_onk (i := .aconst_null) (by decide +kernel) rfl h
      exact sp_aret (by decide +kernel) h
    · refine ite_f hc ?_
      have h := sp_onk (i := .aload_n 0) (by decide +kernel) rfl h
      have h := sp_getR (jj := 19) (ci := 8) (n := 1) (by decide +kernel) (by decide +kernel) (by decide +kernel) hS h
      have h := sp_onk (i := .iload_n 1) (by decide +kernel) rfl h
      obtain ⟨hi, h⟩ := sp_aald (by decide +kernel) hS h
      refine ⟨hi, ?_⟩
      have h := sp_goto (mi := 67) (pc := 18) (off := 4) (t := 22) (by decide +kernel) (by decide) rfl h
      exact sp_aret (by decide +kernel) h
set_option maxRecDepth 20000 in
set_option maxHeartbeats 2000000 in
theorem U68_0 {X : pm_X} {k : Nat} {w w' : pm_W} {r : Option Value} {a : Nat} {p1 : Int32} {p2 : Int32} (hS : SK w) (h : PS X (k + 1) 68 0 [.ref a, .int p1, .int p2] [] w r w') : aI w (gR w a 1) ((p1 * 9) + p2) ∧ (r = some (.int (aG w (gR w a 1) ((p1 * 9) + p2))) ∧ w' = w) := by
  have h := sp_one (i := .aload_n 0) (by decide +kernel) rfl h
  have h := sp_getR (jj := 9) (ci := 5) (n := 1) (by decide +kernel) (by decide +kernel) (by decide +kernel) hS h
  have h := sp_onk (i := .iload_n 1) (by decide +kernel) rfl h
  have h := sp_bipush (n := 9) (v := 9) (by decide +kernel) (by decide +kernel) h
  have h := sp_onk (i := .imul) (by decide +kernel) rfl h
  have h := sp_onk (i := .iload_n 2) (by decide +kernel) rfl h
  have h := sp_onk (i := .iadd) (by decide +kernel) rfl h
  obtain ⟨hi, h⟩ := sp_iald (by decide +kernel) h
  refine ⟨hi, ?_⟩
  exact sp_iret (by decide +kernel) h
set_option maxRecDepth 20000 in
set_option maxHeartbeats 2000000 in
theorem U70_0 {X : pm_X} {k : Nat} {w w' : pm_W} {r : Option Value} {p1 : Int32} (hS : SK w) (h : PS X (k + 1) 70 0 [.ref 0, .int p1] [] w r w') : if p1 < 0 then (r = some (.int 0) ∧ w' = w) else (if p1 < 3 then (iN p1 (gQ w 21).length ∧ (∃ (r1 : Option Value) (w2 : pm_W), PS X k 71 0 [.ref (qG w 21 p1), .ref 1, pm_dead] [] w r1 w2 ∧ (r1 = none → SK w2 → (aI w2 22 p1 ∧ (∀ w3 : pm_W, w3 = aB w2 22 p1 1 → (r = some (.int 1) ∧ w' = w3)))))) else (r = some (.int 0) ∧ w' = w)) := by
  have h := sp_one (i := .iload_n 1) (by decide +kernel) rfl h
  rcases sp_if_lt (mi := 70) (pc := 1) (off := 8) (t := 9) (by decide +kernel) (by decide) rfl h with ⟨hc, h⟩ | ⟨hc, h⟩
  · refine ite_t hc ?_
    have h := sp_iconst (n := 0) (v := 0) (by decide +kernel) (by decide +kernel) h
    exact sp_iret (by decide +kernel) h
  · refine ite_f hc ?_
    have h := sp_onk (i := .iload_n 1) (by decide +kernel) rfl h
    have h := sp_iconst (n := 3) (v := 3) (by decide +kernel) (by decide +kernel) h
    rcases sp_icmp_lt (mi := 70) (pc := 6) (off := 5) (t := 11) (by decide +kernel) (by decide) rfl h with ⟨hc, h⟩ | ⟨hc, h⟩
    · refine ite_t hc ?_
      have h := sp_onk (i := .aload_n 0) (by decide +kernel) rfl h
      have h := sp_getK (jj := 16) (ci := 11) (n := 1) (b := 21) (by decide +kernel) (by decide +kernel) (by decide +kernel) (by decide +kernel) (by decide) hS h
      have h := sp_onk (i := .iload_n 1) (by decide +kernel) rfl h
      obtain ⟨hi, h⟩ := sp_aald (by decide +kernel) hS h
      refine ⟨hi, ?_⟩
      have h := sp_onk (i := .aload_n 0) (by decide +kernel) rfl h
      have h := sp_getK (jj := 12) (ci := 11) (n := 0) (b := 1) (by decide +kernel) (by decide +kernel) (by decide +kernel) (by decide +kernel) (by decide) hS h
      obtain ⟨r1, w2, hc, h⟩ := sp_callV (jj := 166) (mj := 71) (n := 1) (v := .ref (qG w 21 p1)) (args := [.ref 1]) (ls' := [.ref (qG w 21 p1), .ref 1, pm_dead]) (by decide +kernel) (by decide +kernel) rfl rfl rfl h
      refine ⟨r1, w2, hc, fun er hSw2 => ?_⟩
      subst er
      have h : PS X k 70 24 [.ref 0, .int p1] [] w2 r w' := h
      have h := sp_onk (i := .aload_n 0) (by decide +kernel) rfl h
      have h := sp_getK (jj := 20) (ci := 11) (n := 2) (b := 22) (by decide +kernel) (by decide +kernel) (by decide +kernel) (by decide +kernel) (by decide) hSw2 h
      have h := sp_onk (i := .iload_n 1) (by decide +kernel) rfl h
      have h := sp_iconst (n := 1) (v := 1) (by decide +kernel) (by decide +kernel) h
      obtain ⟨hi, h⟩ := sp_bast (by decide +kernel) h
      refine ⟨hi, ?_⟩
      intro w3 ew3
      rw [← ew3] at h
      have hSw3 : SK w3 := by rw [ew3]; exact SK_aB hSw2
      have h := sp_iconst (n := 1) (v := 1) (by decide +kernel) (by decide +kernel) h
      exact sp_iret (by decide +kernel) h
    · refine ite_f hc ?_
      have h := sp_iconst (n := 0) (v := 0) (by decide +kernel) (by decide +kernel) h
      exact sp_iret (by decide +kernel) h
set_option maxRecDepth 20000 in
set_option maxHeartbeats 2000000 in
theorem U71_0 {X : pm_X} {k : Nat} {w w' : pm_W} {r : Option Value} {a : Nat} {q1 : Nat} (hS : SK w) (h : PS X (k + 1) 71 0 [.ref a, .ref q1, pm_dead] [] w r w') : ∀ w1 : pm_W, w1 = sI w a 2 (gI w q1 2) → (∀ w2 : pm_W, w2 = sI w1 a 3 (gI w1 q1 3) → (PS X k 71 18 [.ref a, .ref q1, .int 0] [] w2 r w')) := by
  have h := sp_one (i := .aload_n 0) (by decide +kernel) rfl h
  have h := sp_onk (i := .aload_n 1) (by decide +kernel) rfl h
  have h := sp_getI (jj := 33) (ci := 8) (n := 2) (by decide +kernel) (by decide +kernel) (by decide +kernel) hS h
  have h := sp_putI (jj := 33) (ci := 8) (n := 2) (ty := .int) (by decide +kernel) (by decide +kernel) (by decide +kernel) hS h
  intro w1 ew1
  rw [← ew1] at h
  have hSw1 : SK w1 := by rw [ew1]; exact SK_sI hS
  have h := sp_onk (i := .aload_n 0) (by decide +kernel) rfl h
  have h := sp_onk (i := .aload_n 1) (by decide +kernel) rfl h
  have h := sp_getI (jj := 36) (ci := 8) (n := 3) (by decide +kernel) (by decide +kernel) (by decide +kernel) hSw1 h
  have h := sp_putI (jj := 36) (ci := 8) (n := 3) (ty := .int) (by decide +kernel) (by decide +kernel) (by decide +kernel) hSw1 h
  intro w2 ew2
  rw [← ew2] at h
  have hSw2 : SK w2 := by rw [ew2]; exact SK_sI hSw1
  have h := sp_iconst (n := 0) (v := 0) (by decide +kernel) (by decide +kernel) h
  have h := sp_istore_n (j := 2) (ls' := [.ref a, .ref q1, .int 0]) (by decide +kernel) (Nat.le_of_ble_eq_true rfl) rfl h
  exact h
set_option maxRecDepth 20000 in
set_option maxHeartbeats 2000000 in
theorem U71_18 {X : pm_X} {k : Nat} {w w' : pm_W} {r : Option Value} {o0 : Nat} {o1 : Nat} {i2 : Int32} (hS : SK w) (h : PS X (k + 1) 71 18 [.ref o0, .ref o1, .int i2] [] w r w') : if (gI w o0 2) ≤ i2 then (PS X k 71 49 [.ref o0, .ref o1, .int 0] [] w r w') else (iN i2 (gQ w (gR w o0 0)).length ∧ (iN i2 (gQ w (gR w o1 0)).length ∧ (∃ (r1 : Option Value) (w2 : pm_W), PS X k 56 0 [.ref (qG w (gR w o0 0) i2), .ref (qG w (gR w o1 0) i2)] [] w r1 w2 ∧ (r1 = none → SK w2 → (PS X k 71 18 [.ref o0, .ref o1, .int (i2 + 1)] [] w2 r w'))))) := by
  have h := sp_one (i := .iload_n 2) (by decide +kernel) rfl h
  have h := sp_onk (i := .aload_n 0) (by decide +kernel) rfl h
  have h := sp_getI (jj := 33) (ci := 8) (n := 2) (by decide +kernel) (by decide +kernel) (by decide +kernel) hS h
  rcases sp_icmp_ge (mi := 71) (pc := 23) (off := 24) (t := 47) (by decide +kernel) (by decide) rfl h with ⟨hc, h⟩ | ⟨hc, h⟩
  · refine ite_t hc ?_
    have h := sp_iconst (n := 0) (v := 0) (by decide +kernel) (by decide +kernel) h
    have h := sp_istore_n (j := 2) (ls' := [.ref o0, .ref o1, .int 0]) (by decide +kernel) (Nat.le_of_ble_eq_true rfl) rfl h
    exact h
  · refine ite_f hc ?_
    have h := sp_onk (i := .aload_n 0) (by decide +kernel) rfl h
    have h := sp_getR (jj := 11) (ci := 8) (n := 0) (by decide +kernel) (by decide +kernel) (by decide +kernel) hS h
    have h := sp_onk (i := .iload_n 2) (by decide +kernel) rfl h
    obtain ⟨hi, h⟩ := sp_aald (by decide +kernel) hS h
    refine ⟨hi, ?_⟩
    have h := sp_onk (i := .aload_n 1) (by decide +kernel) rfl h
    have h := sp_getR (jj := 11) (ci := 8) (n := 0) (by decide +kernel) (by decide +kernel) (by decide +kernel) hS h
    have h := sp_onk (i := .iload_n 2) (by decide +kernel) rfl h
    obtain ⟨hi, h⟩ := sp_aald (by decide +kernel) hS h
    refine ⟨hi, ?_⟩
    obtain ⟨r1, w2, hc, h⟩ := sp_callV (jj := 39) (mj := 56) (n := 1) (v := .ref (qG w (gR w o0 0) i2)) (args := [.ref (qG w (gR w o1 0) i2)]) (ls' := [.ref (qG w (gR w o0 0) i2), .ref (qG w (gR w o1 0) i2)]) (by decide +kernel) (by decide +kernel) rfl rfl rfl h
    refine ⟨r1, w2, hc, fun er hSw2 => ?_⟩
    subst er
    have h : PS X k 71 41 [.ref o0, .ref o1, .int i2] [] w2 r w' := h
    have h := sp_iinc (j := 2) (n := 1) (v := 1) (ls' := [.ref o0, .ref o1, .int (i2 + 1)]) (by decide +kernel) rfl (by decide +kernel) rfl h
    have h := sp_goto (mi := 71) (pc := 44) (off := (-26)) (t := 18) (by decide +kernel) (by decide) rfl h
    exact h
set_option maxRecDepth 20000 in
set_option maxHeartbeats 2000000 in
theorem U71_49 {X : pm_X} {k : Nat} {w w' : pm_W} {r : Option Value} {o0 : Nat} {o1 : Nat} {i2 : Int32} (hS : SK w) (h : PS X (k + 1) 71 49 [.ref o0, .ref o1, .int i2] [] w r w') : if (gI w o0 3) ≤ i2 then (∀ w1 : pm_W, w1 = sI w o0 5 (gI w o1 5) → (cpI w1 (gR w1 o1 4) (gR w1 o0 4) 0 0 (gI w1 o0 5) ∧ (∀ w2 : pm_W, w2 = cpS w1 (gR w1 o1 4) (gR w1 o0 4) 0 0 (gI w1 o0 5) → (∀ w3 : pm_W, w3 = sI w2 o0 6 (gI w2 o1 6) → (∀ w4 : pm_W, w4 = sI w3 o0 7 (gI w3 o1 7) → (r = none ∧ w' = w4)))))) else (iN i2 (gQ w (gR w o0 1)).length ∧ (iN i2 (gQ w (gR w o1 1)).length ∧ (∃ (r5 : Option Value) (w6 : pm_W), PS X k 57 0 [.ref (qG w (gR w o0 1) i2), .ref (qG w (gR w o1 1) i2)] [] w r5 w6 ∧ (r5 = none → SK w6 → (PS X k 71 49 [.ref o0, .ref o1, .int (i2 + 1)] [] w6 r w'))))) := by
  have h := sp_one (i := .iload_n 2) (by decide +kernel) rfl h
  have h := sp_onk (i := .aload_n 0) (by decide +kernel) rfl h
  have h := sp_getI (jj := 36) (ci := 8) (n := 3) (by decide +kernel) (by decide +kernel) (by decide +kernel) hS h
  rcases sp_icmp_ge (mi := 71) (pc := 54) (off := 24) (t := 78) (by decide +kernel) (by decide) rfl h with ⟨hc, h⟩ | ⟨hc, h⟩
  · refine ite_t hc ?_
    have h := sp_onk (i := .aload_n 0) (by decide +kernel) rfl h
    have h := sp_onk (i := .aload_n 1) (by decide +kernel) rfl h
    have h := sp_getI (jj := 46) (ci := 8) (n := 5) (by decide +kernel) (by decide +kernel) (by decide +kernel) hS h
    have h := sp_putI (jj := 46) (ci := 8) (n := 5) (ty := .int) (by decide +kernel) (by decide +kernel) (by decide +kernel) hS h
    intro w1 ew1
    rw [← ew1] at h
    have hSw1 : SK w1 := by rw [ew1]; exact SK_sI hS
    have h := sp_onk (i := .aload_n 1) (by decide +kernel) rfl h
    have h := sp_getR (jj := 23) (ci := 8) (n := 4) (by decide +kernel) (by decide +kernel) (by decide +kernel) hSw1 h
    have h := sp_iconst (n := 0) (v := 0) (by decide +kernel) (by decide +kernel) h
    have h := sp_onk (i := .aload_n 0) (by decide +kernel) rfl h
    have h := sp_getR (jj := 23) (ci := 8) (n := 4) (by decide +kernel) (by decide +kernel) (by decide +kernel) hSw1 h
    have h := sp_iconst (n := 0) (v := 0) (by decide +kernel) (by decide +kernel) h
    have h := sp_onk (i := .aload_n 0) (by decide +kernel) rfl h
    have h := sp_getI (jj := 46) (ci := 8) (n := 5) (by decide +kernel) (by decide +kernel) (by decide +kernel) hSw1 h
    obtain ⟨hi, h⟩ := sp_copy (j := 49) (by decide +kernel) (by decide +kernel) (by decide +kernel) h
    refine ⟨hi, ?_⟩
    intro w2 ew2
    rw [← ew2] at h
    have hSw2 : SK w2 := by rw [ew2]; exact SK_cpS hi hSw1
    have h := sp_onk (i := .aload_n 0) (by decide +kernel) rfl h
    have h := sp_onk (i := .aload_n 1) (by decide +kernel) rfl h
    have h := sp_getI (jj := 55) (ci := 8) (n := 6) (by decide +kernel) (by decide +kernel) (by decide +kernel) hSw2 h
    have h := sp_putI (jj := 55) (ci := 8) (n := 6) (ty := .int) (by decide +kernel) (by decide +kernel) (by decide +kernel) hSw2 h
    intro w3 ew3
    rw [← ew3] at h
    have hSw3 : SK w3 := by rw [ew3]; exact SK_sI hSw2
    have h := sp_onk (i := .aload_n 0) (by decide +kernel) rfl h
    have h := sp_onk (i := .aload_n 1) (by decide +kernel) rfl h
    have h := sp_getI (jj := 27) (ci := 8) (n := 7) (by decide +kernel) (by decide +kernel) (by decide +kernel) hSw3 h
    have h := sp_putI (jj := 27) (ci := 8) (n := 7) (ty := .int) (by decide +kernel) (by decide +kernel) (by decide +kernel) hSw3 h
    intro w4 ew4
    rw [← ew4] at h
    have hSw4 : SK w4 := by rw [ew4]; exact SK_sI hSw3
    exact sp_vret (by decide +kernel) h
  · refine ite_f hc ?_
    have h := sp_onk (i := .aload_n 0) (by decide +kernel) rfl h
    have h := sp_getR (jj := 19) (ci := 8) (n := 1) (by decide +kernel) (by decide +kernel) (by decide +kernel) hS h
    have h := sp_onk (i := .iload_n 2) (by decide +kernel) rfl h
    obtain ⟨hi, h⟩ := sp_aald (by decide +kernel) hS h
    refine ⟨hi, ?_⟩
    have h := sp_onk (i := .aload_n 1) (by decide +kernel) rfl h
    have h := sp_getR (jj := 19) (ci := 8) (n := 1) (by decide +kernel) (by decide +kernel) (by decide +kernel) hS h
    have h := sp_onk (i := .iload_n 2) (by decide +kernel) rfl h
    obtain ⟨hi, h⟩ := sp_aald (by decide +kernel) hS h
    refine ⟨hi, ?_⟩
    obtain ⟨r5, w6, hc, h⟩ := sp_callV (jj := 43) (mj := 57) (n := 1) (v := .ref (qG w (gR w o0 1) i2)) (args := [.ref (qG w (gR w o1 1) i2)]) (ls' := [.ref (qG w (gR w o0 1) i2), .ref (qG w (gR w o1 1) i2)]) (by decide +kernel) (by decide +kernel) rfl rfl rfl h
    refine ⟨r5, w6, hc, fun er hSw6 => ?_⟩
    subst er
    have h : PS X k 71 72 [.ref o0, .ref o1, .int i2] [] w6 r w' := h
    have h := sp_iinc (j := 2) (n := 1) (v := 1) (ls' := [.ref o0, .ref o1, .int (i2 + 1)]) (by decide +kernel) rfl (by decide +kernel) rfl h
    have h := sp_goto (mi := 71) (pc := 75) (off := (-26)) (t := 49) (by decide +kernel) (by decide) rfl h
    exact h
set_option maxRecDepth 20000 in
set_option maxHeartbeats 2000000 in
theorem U72_0 {X : pm_X} {k : Nat} {w w' : pm_W} {r : Option Value} {p1 : Int32} (hS : SK w) (h : PS X (k + 1) 72 0 [.ref 0, .int p1] [] w r w') : if p1 < 0 then (r = some (.int 0) ∧ w' = w) else (if 3 ≤ p1 then (r = some (.int 0) ∧ w' = w) else (aI w 22 p1 ∧ (if (aG w 22 p1) = 0 then (r = some (.int 0) ∧ w' = w) else (iN p1 (gQ w 21).length ∧ (∃ (r1 : Option Value) (w2 : pm_W), PS X k 71 0 [.ref 1, .ref (qG w 21 p1), pm_dead] [] w r1 w2 ∧ (r1 = none → SK w2 → (r = some (.int 1) ∧ w' = w2))))))) := by
  have h := sp_one (i := .iload_n 1) (by decide +kernel) rfl h
  rcases sp_if_lt (mi := 72) (pc := 1) (off := 17) (t := 18) (by decide +kernel) (by decide) rfl h with ⟨hc, h⟩ | ⟨hc, h⟩
  · refine ite_t hc ?_
    have h := sp_iconst (n := 0) (v := 0) (by decide +kernel) (by decide +kernel) h
    exact sp_iret (by decide +kernel) h
  · refine ite_f hc ?_
    have h := sp_onk (i := .iload_n 1) (by decide +kernel) rfl h
    have h := sp_iconst (n := 3) (v := 3) (by decide +kernel) (by decide +kernel) h
    rcases sp_icmp_ge (mi := 72) (pc := 6) (off := 12) (t := 18) (by decide +kernel) (by decide) rfl h with ⟨hc, h⟩ | ⟨hc, h⟩
    · refine ite_t hc ?_
      have h := sp_iconst (n := 0) (v := 0) (by decide +kernel) (by decide +kernel) h
      exact sp_iret (by decide +kernel) h
    · refine ite_f hc ?_
      have h := sp_onk (i := .aload_n 0) (by decide +kernel) rfl h
      have h := sp_getK (jj := 20) (ci := 11) (n := 2) (b := 22) (by decide +kernel) (by decide +kernel) (by decide +kernel) (by decide +kernel) (by decide) hS h
      have h := sp_onk (i := .iload_n 1) (by decide +kernel) rfl h
      obtain ⟨hi, h⟩ := sp_bald (by decide +kernel) h
      refine ⟨hi, ?_⟩
      rcases sp_if_ne (mi := 72) (pc := 15) (off := 5) (t := 20) (by decide +kernel) (by decide) rfl h with ⟨hc, h⟩ | ⟨hc, h⟩
      · refine ite_f hc ?_
        have h := sp_onk (i := .aload_n 0) (by decide +kernel) rfl h
        have h := sp_getK (jj := 12) (ci := 11) (n := 0) (b := 1) (by decide +kernel) (by decide +kernel) (by decide +kernel) (by decide +kernel) (by decide) hS h
        have h := sp_onk (i := .aload_n 0) (by decide +kernel) rfl h
        have h := sp_getK (jj := 16) (ci := 11) (n := 1) (b := 21) (by decide +kernel) (by decide +kernel) (by decide +kernel) (by decide +kernel) (by decide) hS h
        have h := sp_onk (i := .iload_n 1) (by decide +kernel) rfl h
        obtain ⟨hi, h⟩ := sp_aald (by decide +kernel) hS h
        refine ⟨hi, ?_⟩
        obtain ⟨r1, w2, hc, h⟩ := sp_callV (jj := 166) (mj := 71) (n := 1) (v := .ref 1) (args := [.ref (qG w 21 p1)]) (ls' := [.ref 1, .ref (qG w 21 p1), pm_dead]) (by decide +kernel) (by decide +kernel) rfl rfl rfl h
        refine ⟨r1, w2, hc, fun er hSw2 => ?_⟩
        subst er
        have h : PS X k 72 33 [.ref 0, .int p1] [] w2 r w' := h
        have h := sp_iconst (n := 1) (v := 1) (by decide +kernel) (by decide +kernel) h
        exact sp_iret (by decide +kernel) h
      · refine ite_t (Classical.not_not.mp hc) ?_
        have h := sp_iconst (n := 0) (v := 0) (by decide +kernel) (by decide +kernel) h
        exact sp_iret (by decide +kernel) h
set_option maxRecDepth 20000 in
set_option maxHeartbeats 2000000 in
theorem U196_0 {X : pm_X} {k : Nat} {w w' : pm_W} {r : Option Value} {p1 : Int32} {p2 : Int32} {p3 : Int32} {p4 : Int32} {p5 : Int32} (hS : SK w) (h : PS X (k + 1) 196 0 [.ref 147, .int p1, .int p2, .int p3, .int p4, .int p5, pm_dead, pm_dead] [] w r w') : aI w 148 2 ∧ (if ((aG w 148 2) + 20) ≤ 600 then (PS X k 196 20 [.ref 147, .int p1, .int p2, .int p3, .int p4, .int p5, .int 0, pm_dead] [] w r w') else (r = some (.int (-1)) ∧ w' = w)) := by
  have h := sp_one (i := .aload_n 0) (by decide +kernel) rfl h
  have h := sp_getK (jj := 7) (ci := 12) (n := 0) (b := 148) (by decide +kernel) (by decide +kernel) (by decide +kernel) (by decide +kernel) (by decide) hS h
  have h := sp_iconst (n := 2) (v := 2) (by decide +kernel) (by decide +kernel) h
  obtain ⟨hi, h⟩ := sp_iald (by decide +kernel) h
  refine ⟨hi, ?_⟩
  have h := sp_bipush (n := 20) (v := 20) (by decide +kernel) (by decide +kernel) h
  have h := sp_onk (i := .iadd) (by decide +kernel) rfl h
  have h := sp_sipush (n := 600) (v := 600) (by decide +kernel) (by decide +kernel) h
  rcases sp_icmp_le (mi := 196) (pc := 12) (off := 5) (t := 17) (by decide +kernel) (by decide) rfl h with ⟨hc, h⟩ | ⟨hc, h⟩
  · refine ite_t hc ?_
    have h := sp_iconst (n := 0) (v := 0) (by decide +kernel) (by decide +kernel) h
    have h := sp_istore (j := 6) (ls' := [.ref 147, .int p1, .int p2, .int p3, .int p4, .int p5, .int 0, pm_dead]) (by decide +kernel) (Nat.le_of_ble_eq_true rfl) rfl h
    exact h
  · refine ite_f hc ?_
    have h := sp_iconst (n := (-1)) (v := (-1)) (by decide +kernel) (by decide +kernel) h
    exact sp_iret (by decide +kernel) h
set_option maxRecDepth 20000 in
set_option maxHeartbeats 2000000 in
theorem U196_20 {X : pm_X} {k : Nat} {w w' : pm_W} {r : Option Value} {i1 : Int32} {i2 : Int32} {i3 : Int32} {i4 : Int32} {i5 : Int32} {i6 : Int32} {u7 : Value} (hS : SK w) (h : PS X (k + 1) 196 20 [.ref 147, .int i1, .int i2, .int i3, .int i4, .int i5, .int i6, u7] [] w r w') : if 20 ≤ i6 then (aI w 148 2 ∧ (r = some (.int (aG w 148 2)) ∧ w' = w)) else (if 4 ≤ i6 then (if 8 ≤ i6 then (if 12 ≤ i6 then (if 16 ≤ i6 then (aI w 148 2 ∧ (aI w 148 (10 + (aG w 148 2)) ∧ (∀ w1 : pm_W, w1 = aS w 148 (10 + (aG w 148 2)) ((i5 >>> (24 - (8 * (i6 - i6 / 4 * 4)) &&& 31)) &&& 255) → (aI w1 148 2 ∧ (aI w1 148 2 ∧ (∀ w2 : pm_W, w2 = aS w1 148 2 ((aG w1 148 2) + 1) → (PS X k 196 20 [.ref 147, .int i1, .int i2, .int i3, .int i4, .int i5, .int (i6 + 1), .int i5] [] w2 r w'))))))) else (aI w 148 2 ∧ (aI w 148 (10 + (aG w 148 2)) ∧ (∀ w3 : pm_W, w3 = aS w 148 (10 + (aG w 148 2)) ((i4 >>> (24 - (8 * (i6 - i6 / 4 * 4)) &&& 31)) &&& 255) → (aI w3 148 2 ∧ (aI w3 148 2 ∧ (∀ w4 : pm_W, w4 = aS w3 148 2 ((aG w3 148 2) + 1) → (PS X k 196 20 [.ref 147, .int i1, .int i2, .int i3, .int i4, .int i5, .int (i6 + 1), .int i4] [] w4 r w')))))))) else (aI w 148 2 ∧ (aI w 148 (10 + (aG w 148 2)) ∧ (∀ w5 : pm_W, w5 = aS w 148 (10 + (aG w 148 2)) ((i3 >>> (24 - (8 * (i6 - i6 / 4 * 4)) &&& 31)) &&& 255) → (aI w5 148 2 ∧ (aI w5 148 2 ∧ (∀ w6 : pm_W, w6 = aS w5 148 2 ((aG w5 148 2) + 1) → (PS X k 196 20 [.ref 147, .int i1, .int i2, .int i3, .int i4, .int i5, .int (i6 + 1), .int i3] [] w6 r w')))))))) else (aI w 148 2 ∧ (aI w 148 (10 + (aG w 148 2)) ∧ (∀ w7 : pm_W, w7 = aS w 148 (10 + (aG w 148 2)) ((i2 >>> (24 - (8 * (i6 - i6 / 4 * 4)) &&& 31)) &&& 255) → (aI w7 148 2 ∧ (aI w7 148 2 ∧ (∀ w8 : pm_W, w8 = aS w7 148 2 ((aG w7 148 2) + 1) → (PS X k 196 20 [.ref 147, .int i1, .int i2, .int i3, .int i4, .int i5, .int (i6 + 1), .int i2] [] w8 r w')))))))) else (aI w 148 2 ∧ (aI w 148 (10 + (aG w 148 2)) ∧ (∀ w9 : pm_W, w9 = aS w 148 (10 + (aG w 148 2)) ((i1 >>> (24 - (8 * (i6 - i6 / 4 * 4)) &&& 31)) &&& 255) → (aI w9 148 2 ∧ (aI w9 148 2 ∧ (∀ w10 : pm_W, w10 = aS w9 148 2 ((aG w9 148 2) + 1) → (PS X k 196 20 [.ref 147, .int i1, .int i2, .int i3, .int i4, .int i5, .int (i6 + 1), .int i1] [] w10 r w')))))))) := by
  have h := sp_one (i := .iload 6) (by decide +kernel) rfl h
  have h := sp_bipush (n := 20) (v := 20) (by decide +kernel) (by decide +kernel) h
  rcases sp_icmp_ge (mi := 196) (pc := 24) (off := 98) (t := 122) (by decide +kernel) (by decide) rfl h with ⟨hc, h⟩ | ⟨hc, h⟩
  · refine ite_t hc ?_
    have h := sp_onk (i := .aload_n 0) (by decide +kernel) rfl h
    have h := sp_getK (jj := 7) (ci := 12) (n := 0) (b := 148) (by decide +kernel) (by decide +kernel) (by decide +kernel) (by decide +kernel) (by decide) hS h
    have h := sp_iconst (n := 2) (v := 2) (by decide +kernel) (by decide +kernel) h
    obtain ⟨hi, h⟩ := sp_iald (by decide +kernel) h
    refine ⟨hi, ?_⟩
    exact sp_iret (by decide +kernel) h
  · refine ite_f hc ?_
    have h := sp_onk (i := .iload 6) (by decide +kernel) rfl h
    have h := sp_iconst (n := 4) (v := 4) (by decide +kernel) (by decide +kernel) h
    rcases sp_icmp_ge (mi := 196) (pc := 30) (off := 7) (t := 37) (by decide +kernel) (by decide) rfl h with ⟨hc, h⟩ | ⟨hc, h⟩
    · refine ite_t hc ?_
      have h := sp_onk (i := .iload 6) (by decide +kernel) rfl h
      have h := sp_bipush (n := 8) (v := 8) (by decide +kernel) (by decide +kernel) h
      rcases sp_icmp_ge (mi := 196) (pc := 41) (off := 7) (t := 48) (by decide +kernel) (by decide) rfl h with ⟨hc, h⟩ | ⟨hc, h⟩
      · refine ite_t hc ?_
        have h := sp_onk (i := .iload 6) (by decide +kernel) rfl h
        have h := sp_bipush (n := 12) (v := 12) (by decide +kernel) (by decide +kernel) h
        rcases sp_icmp_ge (mi := 196) (pc := 52) (off := 7) (t := 59) (by decide +kernel) (by decide) rfl h with ⟨hc, h⟩ | ⟨hc, h⟩
        · refine ite_t hc ?_
          have h := sp_onk (i := .iload 6) (by decide +kernel) rfl h
          have h := sp_bipush (n := 16) (v := 16) (by decide +kernel) (by decide +kernel) h
          rcases sp_icmp_ge (mi := 196) (pc := 63) (off := 8) (t := 71) (by decide +kernel) (by decide) rfl h with ⟨hc, h⟩ | ⟨hc, h⟩
          · refine ite_t hc ?_
            have h := sp_onk (i := .iload 5) (by decide +kernel) rfl h
            have h := sp_istore (j := 7) (ls' := [.ref 147, .int i1, .int i2, .int i3, .int i4, .int i5, .int i6, .int i5]) (by decide +kernel) (Nat.le_of_ble_eq_true rfl) rfl h
            have h := sp_onk (i := .aload_n 0) (by decide +kernel) rfl h
            have h := sp_getK (jj := 7) (ci := 12) (n := 0) (b := 148) (by decide +kernel) (by decide +kernel) (by decide +kernel) (by decide +kernel) (by decide) hS h
            have h := sp_bipush (n := 10) (v := 10) (by decide +kernel) (by decide +kernel) h
            have h := sp_onk (i := .aload_n 0) (by decide +kernel) rfl h
            have h := sp_getK (jj := 7) (ci := 12) (n := 0) (b := 148) (by decide +kernel) (by decide +kernel) (by decide +kernel) (by decide +kernel) (by decide) hS h
            have h := sp_iconst (n := 2) (v := 2) (by decide +kernel) (by decide +kernel) h
            obtain ⟨hi, h⟩ := sp_iald (by decide +kernel) h
            refine ⟨hi, ?_⟩
            have h := sp_onk (i := .iadd) (by decide +kernel) rfl h
            have h := sp_onk (i := .iload 7) (by decide +kernel) rfl h
            have h := sp_bipush (n := 24) (v := 24) (by decide +kernel) (by decide +kernel) h
            have h := sp_bipush (n := 8) (v := 8) (by decide +kernel) (by decide +kernel) h
            have h := sp_onk (i := .iload 6) (by decide +kernel) rfl h
            have h := sp_iconst (n := 4) (v := 4) (by decide +kernel) (by decide +kernel) h
            have h := sp_irem (by decide +kernel) h
            have h := sp_onk (i := .imul) (by decide +kernel) rfl h
            have h := sp_onk (i := .isub) (by decide +kernel) rfl h
            have h := sp_onk (i := .ishr) (by decide +kernel) rfl h
            have h := sp_sipush (n := 255) (v := 255) (by decide +kernel) (by decide +kernel) h
            have h := sp_onk (i := .iand) (by decide +kernel) rfl h
            obtain ⟨hi, h⟩ := sp_iast (by decide +kernel) h
            refine ⟨hi, ?_⟩
            intro w1 ew1
            rw [← ew1] at h
            have hSw1 : SK w1 := by rw [ew1]; exact SK_aS hS
            have h := sp_onk (i := .aload_n 0) (by decide +kernel) rfl h
            have h := sp_getK (jj := 7) (ci := 12) (n := 0) (b := 148) (by decide +kernel) (by decide +kernel) (by decide +kernel) (by decide +kernel) (by decide) hSw1 h
            have h := sp_iconst (n := 2) (v := 2) (by decide +kernel) (by decide +kernel) h
            have h := sp_onk (i := .dup2) (by decide +kernel) rfl h
            obtain ⟨hi, h⟩ := sp_iald (by decide +kernel) h
            refine ⟨hi, ?_⟩
            have h := sp_iconst (n := 1) (v := 1) (by decide +kernel) (by decide +kernel) h
            have h := sp_onk (i := .iadd) (by decide +kernel) rfl h
            obtain ⟨hi, h⟩ := sp_iast (by decide +kernel) h
            refine ⟨hi, ?_⟩
            intro w2 ew2
            rw [← ew2] at h
            have hSw2 : SK w2 := by rw [ew2]; exact SK_aS hSw1
            have h := sp_iinc (j := 6) (n := 1) (v := 1) (ls' := [.ref 147, .int i1, .int i2, .int i3, .int i4, .int i5, .int (i6 + 1), .int i5]) (by decide +kernel) rfl (by decide +kernel) rfl h
            have h := sp_goto (mi := 196) (pc := 119) (off := (-99)) (t := 20) (by decide +kernel) (by decide) rfl h
            exact h
          · refine ite_f hc ?_
            have h := sp_onk (i := .iload 4) (by decide +kernel) rfl h
            have h := sp_goto (mi := 196) (pc := 68) (off := 5) (t := 73) (by decide +kernel) (by decide) rfl h
            have h := sp_istore (j := 7) (ls' := [.ref 147, .int i1, .int i2, .int i3, .int i4, .int i5, .int i6, .int i4]) (by decide +kernel) (Nat.le_of_ble_eq_true rfl) rfl h
            have h := sp_onk (i := .aload_n 0) (by decide +kernel) rfl h
            have h := sp_getK (jj := 7) (ci := 12) (n := 0) (b := 148) (by decide +kernel) (by decide +kernel) (by decide +kernel) (by decide +kernel) (by decide) hS h
            have h := sp_bipush (n := 10) (v := 10) (by decide +kernel) (by decide +kernel) h
            have h := sp_onk (i := .aload_n 0) (by decide +kernel) rfl h
            have h := sp_getK (jj := 7) (ci := 12) (n := 0) (b := 148) (by decide +kernel) (by decide +kernel) (by decide +kernel) (by decide +kernel) (by decide) hS h
            have h := sp_iconst (n := 2) (v := 2) (by decide +kernel) (by decide +kernel) h
            obtain ⟨hi, h⟩ := sp_iald (by decide +kernel) h
            refine ⟨hi, ?_⟩
            have h := sp_onk (i := .iadd) (by decide +kernel) rfl h
            have h := sp_onk (i := .iload 7) (by decide +kernel) rfl h
            have h := sp_bipush (n := 24) (v := 24) (by decide +kernel) (by decide +kernel) h
            have h := sp_bipush (n := 8) (v := 8) (by decide +kernel) (by decide +kernel) h
            have h := sp_onk (i := .iload 6) (by decide +kernel) rfl h
            have h := sp_iconst (n := 4) (v := 4) (by decide +kernel) (by decide +kernel) h
            have h := sp_irem (by decide +kernel) h
            have h := sp_onk (i := .imul) (by decide +kernel) rfl h
            have h := sp_onk (i := .isub) (by decide +kernel) rfl h
            have h := sp_onk (i := .ishr) (by decide +kernel) rfl h
            have h := sp_sipush (n := 255) (v := 255) (by decide +kernel) (by decide +kernel) h
            have h := sp_onk (i := .iand) (by decide +kernel) rfl h
            obtain ⟨hi, h⟩ := sp_iast (by decide +kernel) h
            refine ⟨hi, ?_⟩
            intro w3 ew3
            rw [← ew3] at h
            have hSw3 : SK w3 := by rw [ew3]; exact SK_aS hS
            have h := sp_onk (i := .aload_n 0) (by decide +kernel) rfl h
            have h := sp_getK (jj := 7) (ci := 12) (n := 0) (b := 148) (by decide +kernel) (by decide +kernel) (by decide +kernel) (by decide +kernel) (by decide) hSw3 h
            have h := sp_iconst (n := 2) (v := 2) (by decide +kernel) (by decide +kernel) h
            have h := sp_onk (i := .dup2) (by decide +kernel) rfl h
            obtain ⟨hi, h⟩ := sp_iald (by decide +kernel) h
            refine ⟨hi, ?_⟩
            have h := sp_iconst (n := 1) (v := 1) (by decide +kernel) (by decide +kernel) h
            have h := sp_onk (i := .iadd) (by decide +kernel) rfl h
            obtain ⟨hi, h⟩ := sp_iast (by decide +kernel) h
            refine ⟨hi, ?_⟩
            intro w4 ew4
            rw [← ew4] at h
            have hSw4 : SK w4 := by rw [ew4]; exact SK_aS hSw3
            have h := sp_iinc (j := 6) (n := 1) (v := 1) (ls' := [.ref 147, .int i1, .int i2, .int i3, .int i4, .int i5, .int (i6 + 1), .int i4]) (by decide +kernel) rfl (by decide +kernel) rfl h
            have h := sp_goto (mi := 196) (pc := 119) (off := (-99)) (t := 20) (by decide +kernel) (by decide) rfl h
            exact h
        · refine ite_f hc ?_
          have h := sp_onk (i := .iload_n 3) (by decide +kernel) rfl h
          have h := sp_goto (mi := 196) (pc := 56) (off := 17) (t := 73) (by decide +kernel) (by decide) rfl h
          have h := sp_istore (j := 7) (ls' := [.ref 147, .int i1, .int i2, .int i3, .int i4, .int i5, .int i6, .int i3]) (by decide +kernel) (Nat.le_of_ble_eq_true rfl) rfl h
          have h := sp_onk (i := .aload_n 0) (by decide +kernel) rfl h
          have h := sp_getK (jj := 7) (ci := 12) (n := 0) (b := 148) (by decide +kernel) (by decide +kernel) (by decide +kernel) (by decide +kernel) (by decide) hS h
          have h := sp_bipush (n := 10) (v := 10) (by decide +kernel) (by decide +kernel) h
          have h := sp_onk (i := .aload_n 0) (by decide +kernel) rfl h
          have h := sp_getK (jj := 7) (ci := 12) (n := 0) (b := 148) (by decide +kernel) (by decide +kernel) (by decide +kernel) (by decide +kernel) (by decide) hS h
          have h := sp_iconst (n := 2) (v := 2) (by decide +kernel) (by decide +kernel) h
          obtain ⟨hi, h⟩ := sp_iald (by decide +kernel) h
          refine ⟨hi, ?_⟩
          have h := sp_onk (i := .iadd) (by decide +kernel) rfl h
          have h := sp_onk (i := .iload 7) (by decide +kernel) rfl h
          have h := sp_bipush (n := 24) (v := 24) (by decide +kernel) (by decide +kernel) h
          have h := sp_bipush (n := 8) (v := 8) (by decide +kernel) (by decide +kernel) h
          have h := sp_onk (i := .iload 6) (by decide +kernel) rfl h
          have h := sp_iconst (n := 4) (v := 4) (by decide +kernel) (by decide +kernel) h
          have h := sp_irem (by decide +kernel) h
          have h := sp_onk (i := .imul) (by decide +kernel) rfl h
          have h := sp_onk (i := .isub) (by decide +kernel) rfl h
          have h := sp_onk (i := .ishr) (by decide +kernel) rfl h
          have h := sp_sipush (n := 255) (v := 255) (by decide +kernel) (by decide +kernel) h
          have h := sp_onk (i := .iand) (by decide +kernel) rfl h
          obtain ⟨hi, h⟩ := sp_iast (by decide +kernel) h
          refine ⟨hi, ?_⟩
          intro w5 ew5
          rw [← ew5] at h
          have hSw5 : SK w5 := by rw [ew5]; exact SK_aS hS
          have h := sp_onk (i := .aload_n 0) (by decide +kernel) rfl h
          have h := sp_getK (jj := 7) (ci := 12) (n := 0) (b := 148) (by decide +kernel) (by decide +kernel) (by decide +kernel) (by decide +kernel) (by decide) hSw5 h
          have h := sp_iconst (n := 2) (v := 2) (by decide +kernel) (by decide +kernel) h
          have h := sp_onk (i := .dup2) (by decide +kernel) rfl h
          obtain ⟨hi, h⟩ := sp_iald (by decide +kernel) h
          refine ⟨hi, ?_⟩
          have h := sp_iconst (n := 1) (v := 1) (by decide +kernel) (by decide +kernel) h
          have h := sp_onk (i := .iadd) (by decide +kernel) rfl h
          obtain ⟨hi, h⟩ := sp_iast (by decide +kernel) h
          refine ⟨hi, ?_⟩
          intro w6 ew6
          rw [← ew6] at h
          have hSw6 : SK w6 := by rw [ew6]; exact SK_aS hSw5
          have h := sp_iinc (j := 6) (n := 1) (v := 1) (ls' := [.ref 147, .int i1, .int i2, .int i3, .int i4, .int i5, .int (i6 + 1), .int i3]) (by decide +kernel) rfl (by decide +kernel) rfl h
          have h := sp_goto (mi := 196) (pc := 119) (off := (-99)) (t := 20) (by decide +kernel) (by decide) rfl h
          exact h
      · refine ite_f hc ?_
        have h := sp_onk (i := .iload_n 2) (by decide +kernel) rfl h
        have h := sp_goto (mi := 196) (pc := 45) (off := 28) (t := 73) (by decide +kernel) (by decide) rfl h
        have h := sp_istore (j := 7) (ls' := [.ref 147, .int i1, .int i2, .int i3, .int i4, .int i5, .int i6, .int i2]) (by decide +kernel) (Nat.le_of_ble_eq_true rfl) rfl h
        have h := sp_onk (i := .aload_n 0) (by decide +kernel) rfl h
        have h := sp_getK (jj := 7) (ci := 12) (n := 0) (b := 148) (by decide +kernel) (by decide +kernel) (by decide +kernel) (by decide +kernel) (by decide) hS h
        have h := sp_bipush (n := 10) (v := 10) (by decide +kernel) (by decide +kernel) h
        have h := sp_onk (i := .aload_n 0) (by decide +kernel) rfl h
        have h := sp_getK (jj := 7) (ci := 12) (n := 0) (b := 148) (by decide +kernel) (by decide +kernel) (by decide +kernel) (by decide +kernel) (by decide) hS h
        have h := sp_iconst (n := 2) (v := 2) (by decide +kernel) (by decide +kernel) h
        obtain ⟨hi, h⟩ := sp_iald (by decide +kernel) h
        refine ⟨hi, ?_⟩
        have h := sp_onk (i := .iadd) (by decide +kernel) rfl h
        have h := sp_onk (i := .iload 7) (by decide +kernel) rfl h
        have h := sp_bipush (n := 24) (v := 24) (by decide +kernel) (by decide +kernel) h
        have h := sp_bipush (n := 8) (v := 8) (by decide +kernel) (by decide +kernel) h
        have h := sp_onk (i := .iload 6) (by decide +kernel) rfl h
        have h := sp_iconst (n := 4) (v := 4) (by decide +kernel) (by decide +kernel) h
        have h := sp_irem (by decide +kernel) h
        have h := sp_onk (i := .imul) (by decide +kernel) rfl h
        have h := sp_onk (i := .isub) (by decide +kernel) rfl h
        have h := sp_onk (i := .ishr) (by decide +kernel) rfl h
        have h := sp_sipush (n := 255) (v := 255) (by decide +kernel) (by decide +kernel) h
        have h := sp_onk (i := .iand) (by decide +kernel) rfl h
        obtain ⟨hi, h⟩ := sp_iast (by decide +kernel) h
        refine ⟨hi, ?_⟩
        intro w7 ew7
        rw [← ew7] at h
        have hSw7 : SK w7 := by rw [ew7]; exact SK_aS hS
        have h := sp_onk (i := .aload_n 0) (by decide +kernel) rfl h
        have h := sp_getK (jj := 7) (ci := 12) (n := 0) (b := 148) (by decide +kernel) (by decide +kernel) (by decide +kernel) (by decide +kernel) (by decide) hSw7 h
        have h := sp_iconst (n := 2) (v := 2) (by decide +kernel) (by decide +kernel) h
        have h := sp_onk (i := .dup2) (by decide +kernel) rfl h
        obtain ⟨hi, h⟩ := sp_iald (by decide +kernel) h
        refine ⟨hi, ?_⟩
        have h := sp_iconst (n := 1) (v := 1) (by decide +kernel) (by decide +kernel) h
        have h := sp_onk (i := .iadd) (by decide +kernel) rfl h
        obtain ⟨hi, h⟩ := sp_iast (by decide +kernel) h
        refine ⟨hi, ?_⟩
        intro w8 ew8
        rw [← ew8] at h
        have hSw8 : SK w8 := by rw [ew8]; exact SK_aS hSw7
        have h := sp_iinc (j := 6) (n := 1) (v := 1) (ls' := [.ref 147, .int i1, .int i2, .int i3, .int i4, .int i5, .int (i6 + 1), .int i2]) (by decide +kernel) rfl (by decide +kernel) rfl h
        have h := sp_goto (mi := 196) (pc := 119) (off := (-99)) (t := 20) (by decide +kernel) (by decide) rfl h
        exact h
    · refine ite_f hc ?_
      have h := sp_onk (i := .iload_n 1) (by decide +kernel) rfl h
      have h := sp_goto (mi := 196) (pc := 34) (off := 39) (t := 73) (by decide +kernel) (by decide) rfl h
      have h := sp_istore (j := 7) (ls' := [.ref 147, .int i1, .int i2, .int i3, .int i4, .int i5, .int i6, .int i1]) (by decide +kernel) (Nat.le_of_ble_eq_true rfl) rfl h
      have h := sp_onk (i := .aload_n 0) (by decide +kernel) rfl h
      have h := sp_getK (jj := 7) (ci := 12) (n := 0) (b := 148) (by decide +kernel) (by decide +kernel) (by decide +kernel) (by decide +kernel) (by decide) hS h
      have h := sp_bipush (n := 10) (v := 10) (by decide +kernel) (by decide +kernel) h
      have h := sp_onk (i := .aload_n 0) (by decide +kernel) rfl h
      have h := sp_getK (jj := 7) (ci := 12) (n := 0) (b := 148) (by decide +kernel) (by decide +kernel) (by decide +kernel) (by decide +kernel) (by decide) hS h
      have h := sp_iconst (n := 2) (v := 2) (by decide +kernel) (by decide +kernel) h
      obtain ⟨hi, h⟩ := sp_iald (by decide +kernel) h
      refine ⟨hi, ?_⟩
      have h := sp_onk (i := .iadd) (by decide +kernel) rfl h
      have h := sp_onk (i := .iload 7) (by decide +kernel) rfl h
      have h := sp_bipush (n := 24) (v := 24) (by decide +kernel) (by decide +kernel) h
      have h := sp_bipush (n := 8) (v := 8) (by decide +kernel) (by decide +kernel) h
      have h := sp_onk (i := .iload 6) (by decide +kernel) rfl h
      have h := sp_iconst (n := 4) (v := 4) (by decide +kernel) (by decide +kernel) h
      have h := sp_irem (by decide +kernel) h
      have h := sp_onk (i := .imul) (by decide +kernel) rfl h
      have h := sp_onk (i := .isub) (by decide +kernel) rfl h
      have h := sp_onk (i := .ishr) (by decide +kernel) rfl h
      have h := sp_sipush (n := 255) (v := 255) (by decide +kernel) (by decide +kernel) h
      have h := sp_onk (i := .iand) (by decide +kernel) rfl h
      obtain ⟨hi, h⟩ := sp_iast (by decide +kernel) h
      refine ⟨hi, ?_⟩
      intro w9 ew9
      rw [← ew9] at h
      have hSw9 : SK w9 := by rw [ew9]; exact SK_aS hS
      have h := sp_onk (i := .aload_n 0) (by decide +kernel) rfl h
      have h := sp_getK (jj := 7) (ci := 12) (n := 0) (b := 148) (by decide +kernel) (by decide +kernel) (by decide +kernel) (by decide +kernel) (by decide) hSw9 h
      have h := sp_iconst (n := 2) (v := 2) (by decide +kernel) (by decide +kernel) h
      have h := sp_onk (i := .dup2) (by decide +kernel) rfl h
      obtain ⟨hi, h⟩ := sp_iald (by decide +kernel) h
      refine ⟨hi, ?_⟩
      have h := sp_iconst (n := 1) (v := 1) (by decide +kernel) (by decide +kernel) h
      have h := sp_onk (i := .iadd) (by decide +kernel) rfl h
      obtain ⟨hi, h⟩ := sp_iast (by decide +kernel) h
      refine ⟨hi, ?_⟩
      intro w10 ew10
      rw [← ew10] at h
      have hSw10 : SK w10 := by rw [ew10]; exact SK_aS hSw9
      have h := sp_iinc (j := 6) (n := 1) (v := 1) (ls' := [.ref 147, .int i1, .int i2, .int i3, .int i4, .int i5, .int (i6 + 1), .int i1]) (by decide +kernel) rfl (by decide +kernel) rfl h
      have h := sp_goto (mi := 196) (pc := 119) (off := (-99)) (t := 20) (by decide +kernel) (by decide) rfl h
      exact h
set_option maxRecDepth 20000 in
set_option maxHeartbeats 2000000 in
theorem U197_0 {X : pm_X} {k : Nat} {w w' : pm_W} {r : Option Value} {p1 : Int32} (hS : SK w) (h : PS X (k + 1) 197 0 [.ref 147, .int p1] [] w r w') : if p1 < 0 then (r = some (.int (-1)) ∧ w' = w) else (aI w 148 2 ∧ (if p1 ≤ (aG w 148 2) then (aI w 148 2 ∧ (∀ w1 : pm_W, w1 = aS w 148 2 p1 → (r = some (.int p1) ∧ w' = w1))) else (r = some (.int (-1)) ∧ w' = w))) := by
  have h := sp_one (i := .iload_n 1) (by decide +kernel) rfl h
  rcases sp_if_lt (mi := 197) (pc := 1) (off := 13) (t := 14) (by decide +kernel) (by decide) rfl h with ⟨hc, h⟩ | ⟨hc, h⟩
  · refine ite_t hc ?_
    have h := sp_iconst (n := (-1)) (v := (-1)) (by decide +kernel) (by decide +kernel) h
    exact sp_iret (by decide +kernel) h
  · refine ite_f hc ?_
    have h := sp_onk (i := .iload_n 1) (by decide +kernel) rfl h
    have h := sp_onk (i := .aload_n 0) (by decide +kernel) rfl h
    have h := sp_getK (jj := 7) (ci := 12) (n := 0) (b := 148) (by decide +kernel) (by decide +kernel) (by decide +kernel) (by decide +kernel) (by decide) hS h
    have h := sp_iconst (n := 2) (v := 2) (by decide +kernel) (by decide +kernel) h
    obtain ⟨hi, h⟩ := sp_iald (by decide +kernel) h
    refine ⟨hi, ?_⟩
    rcases sp_icmp_le (mi := 197) (pc := 11) (off := 5) (t := 16) (by decide +kernel) (by decide) rfl h with ⟨hc, h⟩ | ⟨hc, h⟩
    · refine ite_t hc ?_
      have h := sp_onk (i := .aload_n 0) (by decide +kernel) rfl h
      have h := sp_getK (jj := 7) (ci := 12) (n := 0) (b := 148) (by decide +kernel) (by decide +kernel) (by decide +kernel) (by decide +kernel) (by decide) hS h
      have h := sp_iconst (n := 2) (v := 2) (by decide +kernel) (by decide +kernel) h
      have h := sp_onk (i := .iload_n 1) (by decide +kernel) rfl h
      obtain ⟨hi, h⟩ := sp_iast (by decide +kernel) h
      refine ⟨hi, ?_⟩
      intro w1 ew1
      rw [← ew1] at h
      have hSw1 : SK w1 := by rw [ew1]; exact SK_aS hS
      have h := sp_onk (i := .iload_n 1) (by decide +kernel) rfl h
      exact sp_iret (by decide +kernel) h
    · refine ite_f hc ?_
      have h := sp_iconst (n := (-1)) (v := (-1)) (by decide +kernel) (by decide +kernel) h
      exact sp_iret (by decide +kernel) h
set_option maxRecDepth 20000 in
set_option maxHeartbeats 2000000 in
theorem U198_0 {X : pm_X} {k : Nat} {w w' : pm_W} {r : Option Value} {p1 : Int32} {p2 : Int32} (hS : SK w) (h : PS X (k + 1) 198 0 [.ref 147, .int p1, .int p2, pm_dead, pm_dead, pm_dead] [] w r w') : aI w 148 2 ∧ (∀ w1 : pm_W, w1 = sI w 147 2 (aG w 148 2) → (aI w1 148 2 ∧ (∀ w2 : pm_W, w2 = aS w1 148 2 0 → (aI w2 148 3 ∧ (∀ w3 : pm_W, w3 = aS w2 148 3 0 → (aI w3 148 4 ∧ (∀ w4 : pm_W, w4 = aS w3 148 4 (-1) → (∃ (r5 : Option Value) (w6 : pm_W), PS X k 199 0 [.int p1, .int 0, .int 1] [] w4 r5 w6 ∧ (∀ x7 : Int32, r5 = some (.int x7) → SK w6 → (if x7 = 0 then (PS X k 198 69 [.ref 147, .int p1, .int p2, pm_dead, pm_dead, pm_dead] [] w6 r w') else (if p2 = (-1) then (aI w6 148 p1 ∧ (if (aG w6 148 p1) < (p1 + 2) then (PS X k 198 72 [.ref 147, .int p1, .int p2, pm_dead, pm_dead, pm_dead] [] w6 r w') else (PS X k 198 69 [.ref 147, .int p1, .int p2, pm_dead, pm_dead, pm_dead] [] w6 r w'))) else (∃ (r8 : Option Value) (w9 : pm_W), PS X k 200 0 [.ref 147, .int p1, .int p2] [] w6 r8 w9 ∧ (∀ x10 : Int32, r8 = some (.int x10) → SK w9 → (if x10 = 0 then (PS X k 198 69 [.ref 147, .int p1, .int p2, pm_dead, pm_dead, pm_dead] [] w9 r w') else (PS X k 198 72 [.ref 147, .int p1, .int p2, pm_dead, pm_dead, pm_dead] [] w9 r w'))))))))))))))) := by
  have h := sp_one (i := .aload_n 0) (by decide +kernel) rfl h
  have h := sp_onk (i := .aload_n 0) (by decide +kernel) rfl h
  have h := sp_getK (jj := 7) (ci := 12) (n := 0) (b := 148) (by decide +kernel) (by decide +kernel) (by decide +kernel) (by decide +kernel) (by decide) hS h
  have h := sp_iconst (n := 2) (v := 2) (by decide +kernel) (by decide +kernel) h
  obtain ⟨hi, h⟩ := sp_iald (by decide +kernel) h
  refine ⟨hi, ?_⟩
  have h := sp_putI (jj := 75) (ci := 12) (n := 2) (ty := .int) (by decide +kernel) (by decide +kernel) (by decide +kernel) hS h
  intro w1 ew1
  rw [← ew1] at h
  have hSw1 : SK w1 := by rw [ew1]; exact SK_sI hS
  have h := sp_onk (i := .aload_n 0) (by decide +kernel) rfl h
  have h := sp_getK (jj := 7) (ci := 12) (n := 0) (b := 148) (by decide +kernel) (by decide +kernel) (by decide +kernel) (by decide +kernel) (by decide) hSw1 h
  have h := sp_iconst (n := 2) (v := 2) (by decide +kernel) (by decide +kernel) h
  have h := sp_iconst (n := 0) (v := 0) (by decide +kernel) (by decide +kernel) h
  obtain ⟨hi, h⟩ := sp_iast (by decide +kernel) h
  refine ⟨hi, ?_⟩
  intro w2 ew2
  rw [← ew2] at h
  have hSw2 : SK w2 := by rw [ew2]; exact SK_aS hSw1
  have h := sp_onk (i := .aload_n 0) (by decide +kernel) rfl h
  have h := sp_getK (jj := 7) (ci := 12) (n := 0) (b := 148) (by decide +kernel) (by decide +kernel) (by decide +kernel) (by decide +kernel) (by decide) hSw2 h
  have h := sp_iconst (n := 3) (v := 3) (by decide +kernel) (by decide +kernel) h
  have h := sp_iconst (n := 0) (v := 0) (by decide +kernel) (by decide +kernel) h
  obtain ⟨hi, h⟩ := sp_iast (by decide +kernel) h
  refine ⟨hi, ?_⟩
  intro w3 ew3
  rw [← ew3] at h
  have hSw3 : SK w3 := by rw [ew3]; exact SK_aS hSw2
  have h := sp_onk (i := .aload_n 0) (by decide +kernel) rfl h
  have h := sp_getK (jj := 7) (ci := 12) (n := 0) (b := 148) (by decide +kernel) (by decide +kernel) (by decide +kernel) (by decide +kernel) (by decide) hSw3 h
  have h := sp_iconst (n := 4) (v := 4) (by decide +kernel) (by decide +kernel) h
  have h := sp_iconst (n := (-1)) (v := (-1)) (by decide +kernel) (by decide +kernel) h
  obtain ⟨hi, h⟩ := sp_iast (by decide +kernel) h
  refine ⟨hi, ?_⟩
  intro w4 ew4
  rw [← ew4] at h
  have hSw4 : SK w4 := by rw [ew4]; exact SK_aS hSw3
  have h := sp_onk (i := .iload_n 1) (by decide +kernel) rfl h
  have h := sp_iconst (n := 0) (v := 0) (by decide +kernel) (by decide +kernel) h
  have h := sp_iconst (n := 1) (v := 1) (by decide +kernel) (by decide +kernel) h
  obtain ⟨r5, w6, hc, h⟩ := sp_callS (jj := 119) (mj := 199) (n := 3) (args := [.int 1, .int 0, .int p1]) (ls' := [.int p1, .int 0, .int 1]) (by decide +kernel) (by decide +kernel) (by decide +kernel) rfl rfl rfl h
  refine ⟨r5, w6, hc, fun x7 er hSw6 => ?_⟩
  subst er
  have h : PS X k 198 37 [.ref 147, .int p1, .int p2, pm_dead, pm_dead, pm_dead] [.int x7] w6 r w' := h
  rcases sp_if_eq (mi := 198) (pc := 37) (off := 32) (t := 69) (by decide +kernel) (by decide) rfl h with ⟨hc, h⟩ | ⟨hc, h⟩
  · refine ite_t hc ?_
    exact h
  · refine ite_f hc ?_
    have h := sp_onk (i := .iload_n 2) (by decide +kernel) rfl h
    have h := sp_iconst (n := (-1)) (v := (-1)) (by decide +kernel) (by decide +kernel) h
    rcases sp_icmp_ne (mi := 198) (pc := 42) (off := 18) (t := 60) (by decide +kernel) (by decide) rfl h with ⟨hc, h⟩ | ⟨hc, h⟩
    · refine ite_f hc ?_
      have h := sp_onk (i := .aload_n 0) (by decide +kernel) rfl h
      have h := sp_onk (i := .iload_n 1) (by decide +kernel) rfl h
      have h := sp_onk (i := .iload_n 2) (by decide +kernel) rfl h
      obtain ⟨r8, w9, hc, h⟩ := sp_callV (jj := 153) (mj := 200) (n := 2) (v := .ref 147) (args := [.int p2, .int p1]) (ls' := [.ref 147, .int p1, .int p2]) (by decide +kernel) (by decide +kernel) rfl rfl rfl h
      refine ⟨r8, w9, hc, fun x10 er hSw9 => ?_⟩
      subst er
      have h : PS X k 198 66 [.ref 147, .int p1, .int p2, pm_dead, pm_dead, pm_dead] [.int x10] w9 r w' := h
      rcases sp_if_ne (mi := 198) (pc := 66) (off := 6) (t := 72) (by decide +kernel) (by decide) rfl h with ⟨hc, h⟩ | ⟨hc, h⟩
      · refine ite_f hc ?_
        exact h
      · refine ite_t (Classical.not_not.mp hc) ?_
        exact h
    · refine ite_t (Classical.not_not.mp hc) ?_
      have h := sp_onk (i := .aload_n 0) (by decide +kernel) rfl h
      have h := sp_getK (jj := 7) (ci := 12) (n := 0) (b := 148) (by decide +kernel) (by decide +kernel) (by decide +kernel) (by decide +kernel) (by decide) hSw6 h
      have h := sp_onk (i := .iload_n 1) (by decide +kernel) rfl h
      obtain ⟨hi, h⟩ := sp_iald (by decide +kernel) h
      refine ⟨hi, ?_⟩
      have h := sp_onk (i := .iload_n 1) (by decide +kernel) rfl h
      have h := sp_iconst (n := 2) (v := 2) (by decide +kernel) (by decide +kernel) h
      have h := sp_onk (i := .iadd) (by decide +kernel) rfl h
      rcases sp_icmp_lt (mi := 198) (pc := 54) (off := 18) (t := 72) (by decide +kernel) (by decide) rfl h with ⟨hc, h⟩ | ⟨hc, h⟩
      · refine ite_t hc ?_
        exact h
      · refine ite_f hc ?_
        have h := sp_goto (mi := 198) (pc := 57) (off := 12) (t := 69) (by decide +kernel) (by decide) rfl h
        exact h
set_option maxRecDepth 20000 in
set_option maxHeartbeats 2000000 in
theorem U198_69 {X : pm_X} {k : Nat} {w w' : pm_W} {r : Option Value} {i1 : Int32} {i2 : Int32} (hS : SK w) (h : PS X (k + 1) 198 69 [.ref 147, .int i1, .int i2, pm_dead, pm_dead, pm_dead] [] w r w') : r = some (.int (-2)) ∧ w' = w := by
  have h := sp_bipush1 (n := (-2)) (v := (-2)) (by decide +kernel) (by decide +kernel) h
  exact sp_iret (by decide +kernel) h
set_option maxRecDepth 20000 in
set_option maxHeartbeats 2000000 in
theorem U198_72 {X : pm_X} {k : Nat} {w w' : pm_W} {r : Option Value} {i1 : Int32} {i2 : Int32} (hS : SK w) (h : PS X (k + 1) 198 72 [.ref 147, .int i1, .int i2, pm_dead, pm_dead, pm_dead] [] w r w') : ∀ w1 : pm_W, w1 = sI w 147 3 0 → (∀ w2 : pm_W, w2 = sI w1 147 8 0 → (∀ w3 : pm_W, w3 = sI w2 147 9 0 → (PS X k 198 89 [.ref 147, .int i1, .int i2, .int 0, pm_dead, pm_dead] [] w3 r w'))) := by
  have h := sp_one (i := .aload_n 0) (by decide +kernel) rfl h
  have h := sp_iconst (n := 0) (v := 0) (by decide +kernel) (by decide +kernel) h
  have h := sp_putI (jj := 83) (ci := 12) (n := 3) (ty := .int) (by decide +kernel) (by decide +kernel) (by decide +kernel) hS h
  intro w1 ew1
  rw [← ew1] at h
  have hSw1 : SK w1 := by rw [ew1]; exact SK_sI hS
  have h := sp_onk (i := .aload_n 0) (by decide +kernel) rfl h
  have h := sp_iconst (n := 0) (v := 0) (by decide +kernel) (by decide +kernel) h
  have h := sp_putI (jj := 112) (ci := 12) (n := 8) (ty := .boolean) (by decide +kernel) (by decide +kernel) (by decide +kernel) hSw1 h
  intro w2 ew2
  rw [← ew2] at h
  have hSw2 : SK w2 := by rw [ew2]; exact SK_sI hSw1
  have h := sp_onk (i := .aload_n 0) (by decide +kernel) rfl h
  have h := sp_iconst (n := 0) (v := 0) (by decide +kernel) (by decide +kernel) h
  have h := sp_putI (jj := 134) (ci := 12) (n := 9) (ty := .int) (by decide +kernel) (by decide +kernel) (by decide +kernel) hSw2 h
  intro w3 ew3
  rw [← ew3] at h
  have hSw3 : SK w3 := by rw [ew3]; exact SK_sI hSw2
  have h := sp_iconst (n := 0) (v := 0) (by decide +kernel) (by decide +kernel) h
  have h := sp_istore_n (j := 3) (ls' := [.ref 147, .int i1, .int i2, .int 0, pm_dead, pm_dead]) (by decide +kernel) (Nat.le_of_ble_eq_true rfl) rfl h
  exact h
set_option maxRecDepth 20000 in
set_option maxHeartbeats 2000000 in
theorem U198_89 {X : pm_X} {k : Nat} {w w' : pm_W} {r : Option Value} {i1 : Int32} {i2 : Int32} {i3 : Int32} (hS : SK w) (h : PS X (k + 1) 198 89 [.ref 147, .int i1, .int i2, .int i3, pm_dead, pm_dead] [] w r w') : if 272 ≤ i3 then (if i1 = 0 then (aI w 150 0 ∧ (∀ w4 : pm_W, w4 = aS w 150 0 4 → (∃ (r5 : Option Value) (w6 : pm_W), PS X k 201 0 [.ref 147, pm_dead, pm_dead] [] w4 r5 w6 ∧ (r5 = none → SK w6 → (PS X k 198 128 [.ref 147, .int i1, .int i2, .int i3, pm_dead, pm_dead] [] w6 r w'))))) else (aI w 150 0 ∧ (∀ w1 : pm_W, w1 = aS w 150 0 0 → (∃ (r2 : Option Value) (w3 : pm_W), PS X k 201 0 [.ref 147, pm_dead, pm_dead] [] w1 r2 w3 ∧ (r2 = none → SK w3 → (PS X k 198 128 [.ref 147, .int i1, .int i2, .int i3, pm_dead, pm_dead] [] w3 r w')))))) else (aI w 150 i3 ∧ (∀ w7 : pm_W, w7 = aS w 150 i3 0 → (PS X k 198 89 [.ref 147, .int i1, .int i2, .int (i3 + 1), pm_dead, pm_dead] [] w7 r w'))) := by
  have h := sp_one (i := .iload_n 3) (by decide +kernel) rfl h
  have h := sp_sipush (n := 272) (v := 272) (by decide +kernel) (by decide +kernel) h
  rcases sp_icmp_ge (mi := 198) (pc := 93) (off := 16) (t := 109) (by decide +kernel) (by decide) rfl h with ⟨hc, h⟩ | ⟨hc, h⟩
  · refine ite_t hc ?_
    have h := sp_onk (i := .aload_n 0) (by decide +kernel) rfl h
    have h := sp_getK (jj := 17) (ci := 12) (n := 10) (b := 150) (by decide +kernel) (by decide +kernel) (by decide +kernel) (by decide +kernel) (by decide) hS h
    have h := sp_iconst (n := 0) (v := 0) (by decide +kernel) (by decide +kernel) h
    have h := sp_onk (i := .iload_n 1) (by decide +kernel) rfl h
    rcases sp_if_ne (mi := 198) (pc := 115) (off := 7) (t := 122) (by decide +kernel) (by decide) rfl h with ⟨hc, h⟩ | ⟨hc, h⟩
    · refine ite_f hc ?_
      have h := sp_iconst (n := 0) (v := 0) (by decide +kernel) (by decide +kernel) h
      obtain ⟨hi, h⟩ := sp_iast (by decide +kernel) h
      refine ⟨hi, ?_⟩
      intro w1 ew1
      rw [← ew1] at h
      have hSw1 : SK w1 := by rw [ew1]; exact SK_aS hS
      have h := sp_onk (i := .aload_n 0) (by decide +kernel) rfl h
      obtain ⟨r2, w3, hc, h⟩ := sp_callV (jj := 127) (mj := 201) (n := 0) (v := .ref 147) (args := []) (ls' := [.ref 147, pm_dead, pm_dead]) (by decide +kernel) (by decide +kernel) rfl rfl rfl h
      refine ⟨r2, w3, hc, fun er hSw3 => ?_⟩
      subst er
      have h : PS X k 198 128 [.ref 147, .int i1, .int i2, .int i3, pm_dead, pm_dead] [] w3 r w' := h
      exact h
    · refine ite_t (Classical.not_not.mp hc) ?_
      have h := sp_iconst (n := 4) (v := 4) (by decide +kernel) (by decide +kernel) h
      have h := sp_goto (mi := 198) (pc := 119) (off := 4) (t := 123) (by decide +kernel) (by decide) rfl h
      obtain ⟨hi, h⟩ := sp_iast (by decide +kernel) h
      refine ⟨hi, ?_⟩
      intro w4 ew4
      rw [← ew4] at h
      have hSw4 : SK w4 := by rw [ew4]; exact SK_aS hS
      have h := sp_onk (i := .aload_n 0) (by decide +kernel) rfl h
      obtain ⟨r5, w6, hc, h⟩ := sp_callV (jj := 127) (mj := 201) (n := 0) (v := .ref 147) (args := []) (ls' := [.ref 147, pm_dead, pm_dead]) (by decide +kernel) (by decide +kernel) rfl rfl rfl h
      refine ⟨r5, w6, hc, fun er hSw6 => ?_⟩
      subst er
      have h : PS X k 198 128 [.ref 147, .int i1, .int i2, .int i3, pm_dead, pm_dead] [] w6 r w' := h
      exact h
  · refine ite_f hc ?_
    have h := sp_onk (i := .aload_n 0) (by decide +kernel) rfl h
    have h := sp_getK (jj := 17) (ci := 12) (n := 10) (b := 150) (by decide +kernel) (by decide +kernel) (by decide +kernel) (by decide +kernel) (by decide) hS h
    have h := sp_onk (i := .iload_n 3) (by decide +kernel) rfl h
    have h := sp_iconst (n := 0) (v := 0) (by decide +kernel) (by decide +kernel) h
    obtain ⟨hi, h⟩ := sp_iast (by decide +kernel) h
    refine ⟨hi, ?_⟩
    intro w7 ew7
    rw [← ew7] at h
    have hSw7 : SK w7 := by rw [ew7]; exact SK_aS hS
    have h := sp_iinc (j := 3) (n := 1) (v := 1) (ls' := [.ref 147, .int i1, .int i2, .int (i3 + 1), pm_dead, pm_dead]) (by decide +kernel) rfl (by decide +kernel) rfl h
    have h := sp_goto (mi := 198) (pc := 106) (off := (-17)) (t := 89) (by decide +kernel) (by decide) rfl h
    exact h
set_option maxRecDepth 20000 in
set_option maxHeartbeats 2000000 in
theorem U198_128 {X : pm_X} {k : Nat} {w w' : pm_W} {r : Option Value} {i1 : Int32} {i2 : Int32} {i3 : Int32} (hS : SK w) (h : PS X (k + 1) 198 128 [.ref 147, .int i1, .int i2, .int i3, pm_dead, pm_dead] [] w r w') : if (gI w 147 8) = 0 then (if (gI w 147 5) = 0 then (PS X k 198 160 [.ref 147, .int i1, .int i2, .int i3, pm_dead, pm_dead] [] w r w') else (if i1 = 0 then (∃ (r3 : Option Value) (w4 : pm_W), PS X k 207 0 [.ref 147, pm_dead, pm_dead, pm_dead, pm_dead] [] w r3 w4 ∧ (r3 = none → SK w4 → (PS X k 198 128 [.ref 147, .int i1, .int i2, .int i3, pm_dead, pm_dead] [] w4 r w'))) else (∃ (r1 : Option Value) (w2 : pm_W), PS X k 215 0 [.ref 147, pm_dead, pm_dead, pm_dead] [] w r1 w2 ∧ (r1 = none → SK w2 → (PS X k 198 128 [.ref 147, .int i1, .int i2, .int i3, pm_dead, pm_dead] [] w2 r w'))))) else (PS X k 198 160 [.ref 147, .int i1, .int i2, .int i3, pm_dead, pm_dead] [] w r w') := by
  have h := sp_one (i := .aload_n 0) (by decide +kernel) rfl h
  have h := sp_getI (jj := 112) (ci := 12) (n := 8) (by decide +kernel) (by decide +kernel) (by decide +kernel) hS h
  rcases sp_if_ne (mi := 198) (pc := 132) (off := 28) (t := 160) (by decide +kernel) (by decide) rfl h with ⟨hc, h⟩ | ⟨hc, h⟩
  · refine ite_f hc ?_
    exact h
  · refine ite_t (Classical.not_not.mp hc) ?_
    have h := sp_onk (i := .aload_n 0) (by decide +kernel) rfl h
    have h := sp_getI (jj := 93) (ci := 12) (n := 5) (by decide +kernel) (by decide +kernel) (by decide +kernel) hS h
    rcases sp_if_eq (mi := 198) (pc := 139) (off := 21) (t := 160) (by decide +kernel) (by decide) rfl h with ⟨hc, h⟩ | ⟨hc, h⟩
    · refine ite_t hc ?_
      exact h
    · refine ite_f hc ?_
      have h := sp_onk (i := .iload_n 1) (by decide +kernel) rfl h
      rcases sp_if_ne (mi := 198) (pc := 143) (off := 10) (t := 153) (by decide +kernel) (by decide) rfl h with ⟨hc, h⟩ | ⟨hc, h⟩
      · refine ite_f hc ?_
        have h := sp_onk (i := .aload_n 0) (by decide +kernel) rfl h
        obtain ⟨r1, w2, hc, h⟩ := sp_callV (jj := 160) (mj := 215) (n := 0) (v := .ref 147) (args := []) (ls' := [.ref 147, pm_dead, pm_dead, pm_dead]) (by decide +kernel) (by decide +kernel) rfl rfl rfl h
        refine ⟨r1, w2, hc, fun er hSw2 => ?_⟩
        subst er
        have h : PS X k 198 157 [.ref 147, .int i1, .int i2, .int i3, pm_dead, pm_dead] [] w2 r w' := h
        have h := sp_goto (mi := 198) (pc := 157) (off := (-29)) (t := 128) (by decide +kernel) (by decide) rfl h
        exact h
      · refine ite_t (Classical.not_not.mp hc) ?_
        have h := sp_onk (i := .aload_n 0) (by decide +kernel) rfl h
        obtain ⟨r3, w4, hc, h⟩ := sp_callV (jj := 157) (mj := 207) (n := 0) (v := .ref 147) (args := []) (ls' := [.ref 147, pm_dead, pm_dead, pm_dead, pm_dead]) (by decide +kernel) (by decide +kernel) rfl rfl rfl h
        refine ⟨r3, w4, hc, fun er hSw4 => ?_⟩
        subst er
        have h : PS X k 198 150 [.ref 147, .int i1, .int i2, .int i3, pm_dead, pm_dead] [] w4 r w' := h
        have h := sp_goto (mi := 198) (pc := 150) (off := (-22)) (t := 128) (by decide +kernel) (by decide) rfl h
        exact h
set_option maxRecDepth 20000 in
set_option maxHeartbeats 2000000 in
theorem U198_160 {X : pm_X} {k : Nat} {w w' : pm_W} {r : Option Value} {i1 : Int32} {i2 : Int32} {i3 : Int32} (hS : SK w) (h : PS X (k + 1) 198 160 [.ref 147, .int i1, .int i2, .int i3, pm_dead, pm_dead] [] w r w') : aI w 148 3 ∧ (if (aG w 148 3) = 0 then (if i1 = 0 then (aI w 150 0 ∧ (if (gI w 147 9) < (aG w 150 0) then (PS X k 198 195 [.ref 147, .int i1, .int i2, .int i3, pm_dead, pm_dead] [] w r w') else (∃ (r1 : Option Value) (w2 : pm_W), PS X k 211 0 [.ref 147, .int 4, .int (gI w 147 4)] [] w r1 w2 ∧ (r1 = none → SK w2 → (PS X k 198 195 [.ref 147, .int i1, .int i2, .int i3, pm_dead, pm_dead] [] w2 r w'))))) else (PS X k 198 195 [.ref 147, .int i1, .int i2, .int i3, pm_dead, pm_dead] [] w r w')) else (PS X k 198 195 [.ref 147, .int i1, .int i2, .int i3, pm_dead, pm_dead] [] w r w')) := by
  have h := sp_one (i := .aload_n 0) (by decide +kernel) rfl h
  have h := sp_getK (jj := 7) (ci := 12) (n := 0) (b := 148) (by decide +kernel) (by decide +kernel) (by decide +kernel) (by decide +kernel) (by decide) hS h
  have h := sp_iconst (n := 3) (v := 3) (by decide +kernel) (by decide +kernel) h
  obtain ⟨hi, h⟩ := sp_iald (by decide +kernel) h
  refine ⟨hi, ?_⟩
  rcases sp_if_ne (mi := 198) (pc := 166) (off := 29) (t := 195) (by decide +kernel) (by decide) rfl h with ⟨hc, h⟩ | ⟨hc, h⟩
  · refine ite_f hc ?_
    exact h
  · refine ite_t (Classical.not_not.mp hc) ?_
    have h := sp_onk (i := .iload_n 1) (by decide +kernel) rfl h
    rcases sp_if_ne (mi := 198) (pc := 170) (off := 25) (t := 195) (by decide +kernel) (by decide) rfl h with ⟨hc, h⟩ | ⟨hc, h⟩
    · refine ite_f hc ?_
      exact h
    · refine ite_t (Classical.not_not.mp hc) ?_
      have h := sp_onk (i := .aload_n 0) (by decide +kernel) rfl h
      have h := sp_getI (jj := 134) (ci := 12) (n := 9) (by decide +kernel) (by decide +kernel) (by decide +kernel) hS h
      have h := sp_onk (i := .aload_n 0) (by decide +kernel) rfl h
      have h := sp_getK (jj := 17) (ci := 12) (n := 10) (b := 150) (by decide +kernel) (by decide +kernel) (by decide +kernel) (by decide +kernel) (by decide) hS h
      have h := sp_iconst (n := 0) (v := 0) (by decide +kernel) (by decide +kernel) h
      obtain ⟨hi, h⟩ := sp_iald (by decide +kernel) h
      refine ⟨hi, ?_⟩
      rcases sp_icmp_lt (mi := 198) (pc := 183) (off := 12) (t := 195) (by decide +kernel) (by decide) rfl h with ⟨hc, h⟩ | ⟨hc, h⟩
      · refine ite_t hc ?_
        exact h
      · refine ite_f hc ?_
        have h := sp_onk (i := .aload_n 0) (by decide +kernel) rfl h
        have h := sp_iconst (n := 4) (v := 4) (by decide +kernel) (by decide +kernel) h
        have h := sp_onk (i := .aload_n 0) (by decide +kernel) rfl h
        have h := sp_getI (jj := 90) (ci := 12) (n := 4) (by decide +kernel) (by decide +kernel) (by decide +kernel) hS h
        obtain ⟨r1, w2, hc, h⟩ := sp_callV (jj := 123) (mj := 211) (n := 2) (v := .ref 147) (args := [.int (gI w 147 4), .int 4]) (ls' := [.ref 147, .int 4, .int (gI w 147 4)]) (by decide +kernel) (by decide +kernel) rfl rfl rfl h
        refine ⟨r1, w2, hc, fun er hSw2 => ?_⟩
        subst er
        have h : PS X k 198 195 [.ref 147, .int i1, .int i2, .int i3, pm_dead, pm_dead] [] w2 r w' := h
        exact h
set_option maxRecDepth 20000 in
set_option maxHeartbeats 2000000 in
theorem U198_195 {X : pm_X} {k : Nat} {w w' : pm_W} {r : Option Value} {i1 : Int32} {i2 : Int32} {i3 : Int32} (hS : SK w) (h : PS X (k + 1) 198 195 [.ref 147, .int i1, .int i2, .int i3, pm_dead, pm_dead] [] w r w') : aI w 148 3 ∧ (if (aG w 148 3) = 0 then (if i2 = (-1) then (aI w 148 i1 ∧ (if i2 = (-1) then (aI w 148 i1 ∧ (aI w 148 i1 ∧ (∀ w2 : pm_W, w2 = aS w 148 i1 ((aG w 148 i1) + 1) → (PS X k 198 237 [.ref 147, .int i1, .int i2, .int (aG w 148 i1), pm_dead, pm_dead] [] w2 r w')))) else (PS X k 198 237 [.ref 147, .int i1, .int i2, .int (aG w 148 i1), pm_dead, pm_dead] [] w r w'))) else (if i2 = (-1) then (aI w 148 i1 ∧ (aI w 148 i1 ∧ (∀ w1 : pm_W, w1 = aS w 148 i1 ((aG w 148 i1) + 1) → (PS X k 198 237 [.ref 147, .int i1, .int i2, .int i2, pm_dead, pm_dead] [] w1 r w')))) else (PS X k 198 237 [.ref 147, .int i1, .int i2, .int i2, pm_dead, pm_dead] [] w r w'))) else (r = some (.int (-1)) ∧ w' = w)) := by
  have h := sp_one (i := .aload_n 0) (by decide +kernel) rfl h
  have h := sp_getK (jj := 7) (ci := 12) (n := 0) (b := 148) (by decide +kernel) (by decide +kernel) (by decide +kernel) (by decide +kernel) (by decide) hS h
  have h := sp_iconst (n := 3) (v := 3) (by decide +kernel) (by decide +kernel) h
  obtain ⟨hi, h⟩ := sp_iald (by decide +kernel) h
  refine ⟨hi, ?_⟩
  rcases sp_if_eq (mi := 198) (pc := 201) (off := 5) (t := 206) (by decide +kernel) (by decide) rfl h with ⟨hc, h⟩ | ⟨hc, h⟩
  · refine ite_t hc ?_
    have h := sp_onk (i := .iload_n 2) (by decide +kernel) rfl h
    have h := sp_iconst (n := (-1)) (v := (-1)) (by decide +kernel) (by decide +kernel) h
    rcases sp_icmp_ne (mi := 198) (pc := 208) (off := 12) (t := 220) (by decide +kernel) (by decide) rfl h with ⟨hc, h⟩ | ⟨hc, h⟩
    · refine ite_f hc ?_
      have h := sp_onk (i := .iload_n 2) (by decide +kernel) rfl h
      have h := sp_istore_n (j := 3) (ls' := [.ref 147, .int i1, .int i2, .int i2, pm_dead, pm_dead]) (by decide +kernel) (Nat.le_of_ble_eq_true rfl) rfl h
      have h := sp_onk (i := .iload_n 2) (by decide +kernel) rfl h
      have h := sp_iconst (n := (-1)) (v := (-1)) (by decide +kernel) (by decide +kernel) h
      rcases sp_icmp_ne (mi := 198) (pc := 224) (off := 13) (t := 237) (by decide +kernel) (by decide) rfl h with ⟨hc, h⟩ | ⟨hc, h⟩
      · refine ite_f hc ?_
        exact h
      · refine ite_t (Classical.not_not.mp hc) ?_
        have h := sp_onk (i := .aload_n 0) (by decide +kernel) rfl h
        have h := sp_getK (jj := 7) (ci := 12) (n := 0) (b := 148) (by decide +kernel) (by decide +kernel) (by decide +kernel) (by decide +kernel) (by decide) hS h
        have h := sp_onk (i := .iload_n 1) (by decide +kernel) rfl h
        have h := sp_onk (i := .dup2) (by decide +kernel) rfl h
        obtain ⟨hi, h⟩ := sp_iald (by decide +kernel) h
        refine ⟨hi, ?_⟩
        have h := sp_iconst (n := 1) (v := 1) (by decide +kernel) (by decide +kernel) h
        have h := sp_onk (i := .iadd) (by decide +kernel) rfl h
        obtain ⟨hi, h⟩ := sp_iast (by decide +kernel) h
        refine ⟨hi, ?_⟩
        intro w1 ew1
        rw [← ew1] at h
        have hSw1 : SK w1 := by rw [ew1]; exact SK_aS hS
        exact h
    · refine ite_t (Classical.not_not.mp hc) ?_
      have h := sp_onk (i := .aload_n 0) (by decide +kernel) rfl h
      have h := sp_getK (jj := 7) (ci := 12) (n := 0) (b := 148) (by decide +kernel) (by decide +kernel) (by decide +kernel) (by decide +kernel) (by decide) hS h
      have h := sp_onk (i := .iload_n 1) (by decide +kernel) rfl h
      obtain ⟨hi, h⟩ := sp_iald (by decide +kernel) h
      refine ⟨hi, ?_⟩
      have h := sp_goto (mi := 198) (pc := 217) (off := 4) (t := 221) (by decide +kernel) (by decide) rfl h
      have h := sp_istore_n (j := 3) (ls' := [.ref 147, .int i1, .int i2, .int (aG w 148 i1), pm_dead, pm_dead]) (by decide +kernel) (Nat.le_of_ble_eq_true rfl) rfl h
      have h := sp_onk (i := .iload_n 2) (by decide +kernel) rfl h
      have h := sp_iconst (n := (-1)) (v := (-1)) (by decide +kernel) (by decide +kernel) h
      rcases sp_icmp_ne (mi := 198) (pc := 224) (off := 13) (t := 237) (by decide +kernel) (by decide) rfl h with ⟨hc, h⟩ | ⟨hc, h⟩
      · refine ite_f hc ?_
        exact h
      · refine ite_t (Classical.not_not.mp hc) ?_
        have h := sp_onk (i := .aload_n 0) (by decide +kernel) rfl h
        have h := sp_getK (jj := 7) (ci := 12) (n := 0) (b := 148) (by decide +kernel) (by decide +kernel) (by decide +kernel) (by decide +kernel) (by decide) hS h
        have h := sp_onk (i := .iload_n 1) (by decide +kernel) rfl h
        have h := sp_onk (i := .dup2) (by decide +kernel) rfl h
        obtain ⟨hi, h⟩ := sp_iald (by decide +kernel) h
        refine ⟨hi, ?_⟩
        have h := sp_iconst (n := 1) (v := 1) (by decide +kernel) (by decide +kernel) h
        have h := sp_onk (i := .iadd) (by decide +kernel) rfl h
        obtain ⟨hi, h⟩ := sp_iast (by decide +kernel) h
        refine ⟨hi, ?_⟩
        intro w2 ew2
        rw [← ew2] at h
        have hSw2 : SK w2 := by rw [ew2]; exact SK_aS hS
        exact h
  · refine ite_f hc ?_
    have h := sp_iconst (n := (-1)) (v := (-1)) (by decide +kernel) (by decide +kernel) h
    exact sp_iret (by decide +kernel) h
set_option maxRecDepth 20000 in
set_option maxHeartbeats 2000000 in
theorem U198_237 {X : pm_X} {k : Nat} {w w' : pm_W} {r : Option Value} {i1 : Int32} {i2 : Int32} {i3 : Int32} (hS : SK w) (h : PS X (k + 1) 198 237 [.ref 147, .int i1, .int i2, .int i3, pm_dead, pm_dead] [] w r w') : if i1 = 0 then (PS X k 198 255 [.ref 147, .int i1, .int i2, .int i3, .int 132, .int 0] [] w r w') else (PS X k 198 255 [.ref 147, .int i1, .int i2, .int i3, .int 272, .int 0] [] w r w') := by
  have h := sp_one (i := .iload_n 1) (by decide +kernel) rfl h
  rcases sp_if_ne (mi := 198) (pc := 238) (off := 9) (t := 247) (by decide +kernel) (by decide) rfl h with ⟨hc, h⟩ | ⟨hc, h⟩
  · refine ite_f hc ?_
    have h := sp_sipush (n := 272) (v := 272) (by decide +kernel) (by decide +kernel) h
    have h := sp_istore (j := 4) (ls' := [.ref 147, .int i1, .int i2, .int i3, .int 272, pm_dead]) (by decide +kernel) (Nat.le_of_ble_eq_true rfl) rfl h
    have h := sp_iconst (n := 0) (v := 0) (by decide +kernel) (by decide +kernel) h
    have h := sp_istore (j := 5) (ls' := [.ref 147, .int i1, .int i2, .int i3, .int 272, .int 0]) (by decide +kernel) (Nat.le_of_ble_eq_true rfl) rfl h
    exact h
  · refine ite_t (Classical.not_not.mp hc) ?_
    have h := sp_sipush (n := 132) (v := 132) (by decide +kernel) (by decide +kernel) h
    have h := sp_goto (mi := 198) (pc := 244) (off := 6) (t := 250) (by decide +kernel) (by decide) rfl h
    have h := sp_istore (j := 4) (ls' := [.ref 147, .int i1, .int i2, .int i3, .int 132, pm_dead]) (by decide +kernel) (Nat.le_of_ble_eq_true rfl) rfl h
    have h := sp_iconst (n := 0) (v := 0) (by decide +kernel) (by decide +kernel) h
    have h := sp_istore (j := 5) (ls' := [.ref 147, .int i1, .int i2, .int i3, .int 132, .int 0]) (by decide +kernel) (Nat.le_of_ble_eq_true rfl) rfl h
    exact h
set_option maxRecDepth 20000 in
set_option maxHeartbeats 2000000 in
theorem U198_255 {X : pm_X} {k : Nat} {w w' : pm_W} {r : Option Value} {i1 : Int32} {i2 : Int32} {i3 : Int32} {i4 : Int32} {i5 : Int32} (hS : SK w) (h : PS X (k + 1) 198 255 [.ref 147, .int i1, .int i2, .int i3, .int i4, .int i5] [] w r w') : if i4 ≤ i5 then (r = some (.int i3) ∧ w' = w) else (∃ (r1 : Option Value) (w2 : pm_W), PS X k 217 0 [.int i1, .int i3] [] w r1 w2 ∧ (∀ x3 : Int32, r1 = some (.int x3) → SK w2 → (aI w2 150 i5 ∧ (aI w2 148 (x3 + i5) ∧ (∀ w4 : pm_W, w4 = aS w2 148 (x3 + i5) (aG w2 150 i5) → (PS X k 198 255 [.ref 147, .int i1, .int i2, .int i3, .int i4, .int (i5 + 1)] [] w4 r w')))))) := by
  have h := sp_one (i := .iload 5) (by decide +kernel) rfl h
  have h := sp_onk (i := .iload 4) (by decide +kernel) rfl h
  rcases sp_icmp_ge (mi := 198) (pc := 259) (off := 29) (t := 288) (by decide +kernel) (by decide) rfl h with ⟨hc, h⟩ | ⟨hc, h⟩
  · refine ite_t hc ?_
    have h := sp_onk (i := .iload_n 3) (by decide +kernel) rfl h
    exact sp_iret (by decide +kernel) h
  · refine ite_f hc ?_
    have h := sp_onk (i := .aload_n 0) (by decide +kernel) rfl h
    have h := sp_getK (jj := 7) (ci := 12) (n := 0) (b := 148) (by decide +kernel) (by decide +kernel) (by decide +kernel) (by decide +kernel) (by decide) hS h
    have h := sp_onk (i := .iload_n 1) (by decide +kernel) rfl h
    have h := sp_onk (i := .iload_n 3) (by decide +kernel) rfl h
    obtain ⟨r1, w2, hc, h⟩ := sp_callS (jj := 163) (mj := 217) (n := 2) (args := [.int i3, .int i1]) (ls' := [.int i1, .int i3]) (by decide +kernel) (by decide +kernel) (by decide +kernel) rfl rfl rfl h
    refine ⟨r1, w2, hc, fun x3 er hSw2 => ?_⟩
    subst er
    have h : PS X k 198 271 [.ref 147, .int i1, .int i2, .int i3, .int i4, .int i5] [.int x3, .ref 148] w2 r w' := h
    have h := sp_onk (i := .iload 5) (by decide +kernel) rfl h
    have h := sp_onk (i := .iadd) (by decide +kernel) rfl h
    have h := sp_onk (i := .aload_n 0) (by decide +kernel) rfl h
    have h := sp_getK (jj := 17) (ci := 12) (n := 10) (b := 150) (by decide +kernel) (by decide +kernel) (by decide +kernel) (by decide +kernel) (by decide) hSw2 h
    have h := sp_onk (i := .iload 5) (by decide +kernel) rfl h
    obtain ⟨hi, h⟩ := sp_iald (by decide +kernel) h
    refine ⟨hi, ?_⟩
    obtain ⟨hi, h⟩ := sp_iast (by decide +kernel) h
    refine ⟨hi, ?_⟩
    intro w4 ew4
    rw [← ew4] at h
    have hSw4 : SK w4 := by rw [ew4]; exact SK_aS hSw2
    have h := sp_iinc (j := 5) (n := 1) (v := 1) (ls' := [.ref 147, .int i1, .int i2, .int i3, .int i4, .int (i5 + 1)]) (by decide +kernel) rfl (by decide +kernel) rfl h
    have h := sp_goto (mi := 198) (pc := 285) (off := (-30)) (t := 255) (by decide +kernel) (by decide) rfl h
    exact h
set_option maxRecDepth 20000 in
set_option maxHeartbeats 2000000 in
theorem U217_0 {X : pm_X} {k : Nat} {w w' : pm_W} {r : Option Value} {p1 : Int32} {p2 : Int32} (hS : SK w) (h : PS X (k + 1) 217 0 [.int p1, .int p2] [] w r w') : if p1 = 0 then (r = some (.int (610 + (132 * p2))) ∧ w' = w) else (r = some (.int (874 + (272 * p2))) ∧ w' = w) := by
  have h := sp_one (i := .iload_n 0) (by decide +kernel) rfl h
  rcases sp_if_ne (mi := 217) (pc := 1) (off := 15) (t := 16) (by decide +kernel) (by decide) rfl h with ⟨hc, h⟩ | ⟨hc, h⟩
  · refine ite_f hc ?_
    have h := sp_sipush (n := 874) (v := 874) (by decide +kernel) (by decide +kernel) h
    have h := sp_sipush (n := 272) (v := 272) (by decide +kernel) (by decide +kernel) h
    have h := sp_onk (i := .iload_n 1) (by decide +kernel) rfl h
    have h := sp_onk (i := .imul) (by decide +kernel) rfl h
    have h := sp_onk (i := .iadd) (by decide +kernel) rfl h
    exact sp_iret (by decide +kernel) h
  · refine ite_t (Classical.not_not.mp hc) ?_
    have h := sp_sipush (n := 610) (v := 610) (by decide +kernel) (by decide +kernel) h
    have h := sp_sipush (n := 132) (v := 132) (by decide +kernel) (by decide +kernel) h
    have h := sp_onk (i := .iload_n 1) (by decide +kernel) rfl h
    have h := sp_onk (i := .imul) (by decide +kernel) rfl h
    have h := sp_onk (i := .iadd) (by decide +kernel) rfl h
    have h := sp_goto (mi := 217) (pc := 13) (off := 12) (t := 25) (by decide +kernel) (by decide) rfl h
    exact sp_iret (by decide +kernel) h
set_option maxRecDepth 20000 in
set_option maxHeartbeats 2000000 in
theorem U221_0 {X : pm_X} {k : Nat} {w w' : pm_W} {r : Option Value} {p1 : Int32} {p2 : Int32} (hS : SK w) (h : PS X (k + 1) 221 0 [.ref 147, .int p1, .int p2] [] w r w') : aI w 148 p1 ∧ (∃ (r1 : Option Value) (w2 : pm_W), PS X k 199 0 [.int p2, .int 0, .int ((aG w 148 p1) - 1)] [] w r1 w2 ∧ (∀ x3 : Int32, r1 = some (.int x3) → SK w2 → (r = some (.int x3) ∧ w' = w2))) := by
  have h := sp_one (i := .iload_n 2) (by decide +kernel) rfl h
  have h := sp_iconst (n := 0) (v := 0) (by decide +kernel) (by decide +kernel) h
  have h := sp_onk (i := .aload_n 0) (by decide +kernel) rfl h
  have h := sp_getK (jj := 7) (ci := 12) (n := 0) (b := 148) (by decide +kernel) (by decide +kernel) (by decide +kernel) (by decide +kernel) (by decide) hS h
  have h := sp_onk (i := .iload_n 1) (by decide +kernel) rfl h
  obtain ⟨hi, h⟩ := sp_iald (by decide +kernel) h
  refine ⟨hi, ?_⟩
  have h := sp_iconst (n := 1) (v := 1) (by decide +kernel) (by decide +kernel) h
  have h := sp_onk (i := .isub) (by decide +kernel) rfl h
  obtain ⟨r1, w2, hc, h⟩ := sp_callS (jj := 119) (mj := 199) (n := 3) (args := [.int ((aG w 148 p1) - 1), .int 0, .int p2]) (ls' := [.int p2, .int 0, .int ((aG w 148 p1) - 1)]) (by decide +kernel) (by decide +kernel) (by decide +kernel) rfl rfl rfl h
  refine ⟨r1, w2, hc, fun x3 er hSw2 => ?_⟩
  subst er
  have h : PS X k 221 13 [.ref 147, .int p1, .int p2] [.int x3] w2 r w' := h
  exact sp_iret (by decide +kernel) h
set_option maxRecDepth 20000 in
set_option maxHeartbeats 2000000 in
theorem U223_0 {X : pm_X} {k : Nat} {w w' : pm_W} {r : Option Value} {p1 : Int32} {p2 : Int32} (hS : SK w) (h : PS X (k + 1) 223 0 [.ref 147, .int p1, .int p2] [] w r w') : aI w 148 (p1 + 1) ∧ (∃ (r1 : Option Value) (w2 : pm_W), PS X k 199 0 [.int p2, .int 0, .int ((aG w 148 (p1 + 1)) - 1)] [] w r1 w2 ∧ (∀ x3 : Int32, r1 = some (.int x3) → SK w2 → (r = some (.int x3) ∧ w' = w2))) := by
  have h := sp_one (i := .iload_n 2) (by decide +kernel) rfl h
  have h := sp_iconst (n := 0) (v := 0) (by decide +kernel) (by decide +kernel) h
  have h := sp_onk (i := .aload_n 0) (by decide +kernel) rfl h
  have h := sp_getK (jj := 7) (ci := 12) (n := 0) (b := 148) (by decide +kernel) (by decide +kernel) (by decide +kernel) (by decide +kernel) (by decide) hS h
  have h := sp_onk (i := .iload_n 1) (by decide +kernel) rfl h
  have h := sp_iconst (n := 1) (v := 1) (by decide +kernel) (by decide +kernel) h
  have h := sp_onk (i := .iadd) (by decide +kernel) rfl h
  obtain ⟨hi, h⟩ := sp_iald (by decide +kernel) h
  refine ⟨hi, ?_⟩
  have h := sp_iconst (n := 1) (v := 1) (by decide +kernel) (by decide +kernel) h
  have h := sp_onk (i := .isub) (by decide +kernel) rfl h
  obtain ⟨r1, w2, hc, h⟩ := sp_callS (jj := 119) (mj := 199) (n := 3) (args := [.int ((aG w 148 (p1 + 1)) - 1), .int 0, .int p2]) (ls' := [.int p2, .int 0, .int ((aG w 148 (p1 + 1)) - 1)]) (by decide +kernel) (by decide +kernel) (by decide +kernel) rfl rfl rfl h
  refine ⟨r1, w2, hc, fun x3 er hSw2 => ?_⟩
  subst er
  have h : PS X k 223 15 [.ref 147, .int p1, .int p2] [.int x3] w2 r w' := h
  exact sp_iret (by decide +kernel) h
set_option maxRecDepth 20000 in
set_option maxHeartbeats 2000000 in
theorem U224_0 {X : pm_X} {k : Nat} {w w' : pm_W} {r : Option Value} {p1 : Int32} {p2 : Int32} {p3 : Int32} (hS : SK w) (h : PS X (k + 1) 224 0 [.ref 147, .int p1, .int p2, .int p3] [] w r w') : aI w 148 (((p1 + 102) + (4 * p2)) + p3) ∧ (r = some (.int (aG w 148 (((p1 + 102) + (4 * p2)) + p3))) ∧ w' = w) := by
  have h := sp_one (i := .aload_n 0) (by decide +kernel) rfl h
  have h := sp_getK (jj := 7) (ci := 12) (n := 0) (b := 148) (by decide +kernel) (by decide +kernel) (by decide +kernel) (by decide +kernel) (by decide) hS h
  have h := sp_onk (i := .iload_n 1) (by decide +kernel) rfl h
  have h := sp_bipush (n := 102) (v := 102) (by decide +kernel) (by decide +kernel) h
  have h := sp_onk (i := .iadd) (by decide +kernel) rfl h
  have h := sp_iconst (n := 4) (v := 4) (by decide +kernel) (by decide +kernel) h
  have h := sp_onk (i := .iload_n 2) (by decide +kernel) rfl h
  have h := sp_onk (i := .imul) (by decide +kernel) rfl h
  have h := sp_onk (i := .iadd) (by decide +kernel) rfl h
  have h := sp_onk (i := .iload_n 3) (by decide +kernel) rfl h
  have h := sp_onk (i := .iadd) (by decide +kernel) rfl h
  obtain ⟨hi, h⟩ := sp_iald (by decide +kernel) h
  refine ⟨hi, ?_⟩
  exact sp_iret (by decide +kernel) h
set_option maxRecDepth 20000 in
set_option maxHeartbeats 2000000 in
theorem U316_0 {X : pm_X} {k : Nat} {w w' : pm_W} {r : Option Value} {p1 : Int32} (hS : SK w) (h : PS X (k + 1) 316 0 [.ref 147, .int p1, pm_dead] [] w r w') : ∃ (r1 : Option Value) (w2 : pm_W), PS X k 199 0 [.int p1, .int 0, .int 2] [] w r1 w2 ∧ (∀ x3 : Int32, r1 = some (.int x3) → SK w2 → (if x3 = 0 then (r = some (.int 0) ∧ w' = w2) else (aI w2 149 p1 ∧ (∀ w4 : pm_W, w4 = aB w2 149 p1 1 → (PS X k 316 20 [.ref 147, .int p1, .int 0] [] w4 r w'))))) := by
  have h := sp_one (i := .iload_n 1) (by decide +kernel) rfl h
  have h := sp_iconst (n := 0) (v := 0) (by decide +kernel) (by decide +kernel) h
  have h := sp_iconst (n := 2) (v := 2) (by decide +kernel) (by decide +kernel) h
  obtain ⟨r1, w2, hc, h⟩ := sp_callS (jj := 119) (mj := 199) (n := 3) (args := [.int 2, .int 0, .int p1]) (ls' := [.int p1, .int 0, .int 2]) (by decide +kernel) (by decide +kernel) (by decide +kernel) rfl rfl rfl h
  refine ⟨r1, w2, hc, fun x3 er hSw2 => ?_⟩
  subst er
  have h : PS X k 316 6 [.ref 147, .int p1, pm_dead] [.int x3] w2 r w' := h
  rcases sp_if_ne (mi := 316) (pc := 6) (off := 5) (t := 11) (by decide +kernel) (by decide) rfl h with ⟨hc, h⟩ | ⟨hc, h⟩
  · refine ite_f hc ?_
    have h := sp_onk (i := .aload_n 0) (by decide +kernel) rfl h
    have h := sp_getK (jj := 13) (ci := 12) (n := 1) (b := 149) (by decide +kernel) (by decide +kernel) (by decide +kernel) (by decide +kernel) (by decide) hSw2 h
    have h := sp_onk (i := .iload_n 1) (by decide +kernel) rfl h
    have h := sp_iconst (n := 1) (v := 1) (by decide +kernel) (by decide +kernel) h
    obtain ⟨hi, h⟩ := sp_bast (by decide +kernel) h
    refine ⟨hi, ?_⟩
    intro w4 ew4
    rw [← ew4] at h
    have hSw4 : SK w4 := by rw [ew4]; exact SK_aB hSw2
    have h := sp_iconst (n := 0) (v := 0) (by decide +kernel) (by decide +kernel) h
    have h := sp_istore_n (j := 2) (ls' := [.ref 147, .int p1, .int 0]) (by decide +kernel) (Nat.le_of_ble_eq_true rfl) rfl h
    exact h
  · refine ite_t (Classical.not_not.mp hc) ?_
    have h := sp_iconst (n := 0) (v := 0) (by decide +kernel) (by decide +kernel) h
    exact sp_iret (by decide +kernel) h
set_option maxRecDepth 20000 in
set_option maxHeartbeats 2000000 in
theorem U316_20 {X : pm_X} {k : Nat} {w w' : pm_W} {r : Option Value} {i1 : Int32} {i2 : Int32} (hS : SK w) (h : PS X (k + 1) 316 20 [.ref 147, .int i1, .int i2] [] w r w') : if 1690 ≤ i2 then (r = some (.int 1) ∧ w' = w) else (aI w 148 i2 ∧ (aI w 148 ((1690 * (i1 + 1)) + i2) ∧ (∀ w1 : pm_W, w1 = aS w 148 ((1690 * (i1 + 1)) + i2) (aG w 148 i2) → (PS X k 316 20 [.ref 147, .int i1, .int (i2 + 1)] [] w1 r w')))) := by
  have h := sp_one (i := .iload_n 2) (by decide +kernel) rfl h
  have h := sp_sipush (n := 1690) (v := 1690) (by decide +kernel) (by decide +kernel) h
  rcases sp_icmp_ge (mi := 316) (pc := 24) (off := 29) (t := 53) (by decide +kernel) (by decide) rfl h with ⟨hc, h⟩ | ⟨hc, h⟩
  · refine ite_t hc ?_
    have h := sp_iconst (n := 1) (v := 1) (by decide +kernel) (by decide +kernel) h
    exact sp_iret (by decide +kernel) h
  · refine ite_f hc ?_
    have h := sp_onk (i := .aload_n 0) (by decide +kernel) rfl h
    have h := sp_getK (jj := 7) (ci := 12) (n := 0) (b := 148) (by decide +kernel) (by decide +kernel) (by decide +kernel) (by decide +kernel) (by decide) hS h
    have h := sp_sipush (n := 1690) (v := 1690) (by decide +kernel) (by decide +kernel) h
    have h := sp_onk (i := .iload_n 1) (by decide +kernel) rfl h
    have h := sp_iconst (n := 1) (v := 1) (by decide +kernel) (by decide +kernel) h
    have h := sp_onk (i := .iadd) (by decide +kernel) rfl h
    have h := sp_onk (i := .imul) (by decide +kernel) rfl h
    have h := sp_onk (i := .iload_n 2) (by decide +kernel) rfl h
    have h := sp_onk (i := .iadd) (by decide +kernel) rfl h
    have h := sp_onk (i := .aload_n 0) (by decide +kernel) rfl h
    have h := sp_getK (jj := 7) (ci := 12) (n := 0) (b := 148) (by decide +kernel) (by decide +kernel) (by decide +kernel) (by decide +kernel) (by decide) hS h
    have h := sp_onk (i := .iload_n 2) (by decide +kernel) rfl h
    obtain ⟨hi, h⟩ := sp_iald (by decide +kernel) h
    refine ⟨hi, ?_⟩
    obtain ⟨hi, h⟩ := sp_iast (by decide +kernel) h
    refine ⟨hi, ?_⟩
    intro w1 ew1
    rw [← ew1] at h
    have hSw1 : SK w1 := by rw [ew1]; exact SK_aS hS
    have h := sp_iinc (j := 2) (n := 1) (v := 1) (ls' := [.ref 147, .int i1, .int (i2 + 1)]) (by decide +kernel) rfl (by decide +kernel) rfl h
    have h := sp_goto (mi := 316) (pc := 50) (off := (-30)) (t := 20) (by decide +kernel) (by decide) rfl h
    exact h
set_option maxRecDepth 20000 in
set_option maxHeartbeats 2000000 in
theorem U317_0 {X : pm_X} {k : Nat} {w w' : pm_W} {r : Option Value} {p1 : Int32} (hS : SK w) (h : PS X (k + 1) 317 0 [.ref 147, .int p1, pm_dead] [] w r w') : ∃ (r1 : Option Value) (w2 : pm_W), PS X k 199 0 [.int p1, .int 0, .int 2] [] w r1 w2 ∧ (∀ x3 : Int32, r1 = some (.int x3) → SK w2 → (if x3 = 0 then (r = some (.int 0) ∧ w' = w2) else (aI w2 149 p1 ∧ (if (aG w2 149 p1) = 0 then (r = some (.int 0) ∧ w' = w2) else (PS X k 317 22 [.ref 147, .int p1, .int 0] [] w2 r w'))))) := by
  have h := sp_one (i := .iload_n 1) (by decide +kernel) rfl h
  have h := sp_iconst (n := 0) (v := 0) (by decide +kernel) (by decide +kernel) h
  have h := sp_iconst (n := 2) (v := 2) (by decide +kernel) (by decide +kernel) h
  obtain ⟨r1, w2, hc, h⟩ := sp_callS (jj := 119) (mj := 199) (n := 3) (args := [.int 2, .int 0, .int p1]) (ls' := [.int p1, .int 0, .int 2]) (by decide +kernel) (by decide +kernel) (by decide +kernel) rfl rfl rfl h
  refine ⟨r1, w2, hc, fun x3 er hSw2 => ?_⟩
  subst er
  have h : PS X k 317 6 [.ref 147, .int p1, pm_dead] [.int x3] w2 r w' := h
  rcases sp_if_eq (mi := 317) (pc := 6) (off := 12) (t := 18) (by decide +kernel) (by decide) rfl h with ⟨hc, h⟩ | ⟨hc, h⟩
  · refine ite_t hc ?_
    have h := sp_iconst (n := 0) (v := 0) (by decide +kernel) (by decide +kernel) h
    exact sp_iret (by decide +kernel) h
  · refine ite_f hc ?_
    have h := sp_onk (i := .aload_n 0) (by decide +kernel) rfl h
    have h := sp_getK (jj := 13) (ci := 12) (n := 1) (b := 149) (by decide +kernel) (by decide +kernel) (by decide +kernel) (by decide +kernel) (by decide) hSw2 h
    have h := sp_onk (i := .iload_n 1) (by decide +kernel) rfl h
    obtain ⟨hi, h⟩ := sp_bald (by decide +kernel) h
    refine ⟨hi, ?_⟩
    rcases sp_if_ne (mi := 317) (pc := 15) (off := 5) (t := 20) (by decide +kernel) (by decide) rfl h with ⟨hc, h⟩ | ⟨hc, h⟩
    · refine ite_f hc ?_
      have h := sp_iconst (n := 0) (v := 0) (by decide +kernel) (by decide +kernel) h
      have h := sp_istore_n (j := 2) (ls' := [.ref 147, .int p1, .int 0]) (by decide +kernel) (Nat.le_of_ble_eq_true rfl) rfl h
      exact h
    · refine ite_t (Classical.not_not.mp hc) ?_
      have h := sp_iconst (n := 0) (v := 0) (by decide +kernel) (by decide +kernel) h
      exact sp_iret (by decide +kernel) h
set_option maxRecDepth 20000 in
set_option maxHeartbeats 2000000 in
theorem U317_22 {X : pm_X} {k : Nat} {w w' : pm_W} {r : Option Value} {i1 : Int32} {i2 : Int32} (hS : SK w) (h : PS X (k + 1) 317 22 [.ref 147, .int i1, .int i2] [] w r w') : if 1690 ≤ i2 then (r = some (.int 1) ∧ w' = w) else (aI w 148 ((1690 * (i1 + 1)) + i2) ∧ (aI w 148 i2 ∧ (∀ w1 : pm_W, w1 = aS w 148 i2 (aG w 148 ((1690 * (i1 + 1)) + i2)) → (PS X k 317 22 [.ref 147, .int i1, .int (i2 + 1)] [] w1 r w')))) := by
  have h := sp_one (i := .iload_n 2) (by decide +kernel) rfl h
  have h := sp_sipush (n := 1690) (v := 1690) (by decide +kernel) (by decide +kernel) h
  rcases sp_icmp_ge (mi := 317) (pc := 26) (off := 29) (t := 55) (by decide +kernel) (by decide) rfl h with ⟨hc, h⟩ | ⟨hc, h⟩
  · refine ite_t hc ?_
    have h := sp_iconst (n := 1) (v := 1) (by decide +kernel) (by decide +kernel) h
    exact sp_iret (by decide +kernel) h
  · refine ite_f hc ?_
    have h := sp_onk (i := .aload_n 0) (by decide +kernel) rfl h
    have h := sp_getK (jj := 7) (ci := 12) (n := 0) (b := 148) (by decide +kernel) (by decide +kernel) (by decide +kernel) (by decide +kernel) (by decide) hS h
    have h := sp_onk (i := .iload_n 2) (by decide +kernel) rfl h
    have h := sp_onk (i := .aload_n 0) (by decide +kernel) rfl h
    have h := sp_getK (jj := 7) (ci := 12) (n := 0) (b := 148) (by decide +kernel) (by decide +kernel) (by decide +kernel) (by decide +kernel) (by decide) hS h
    have h := sp_sipush (n := 1690) (v := 1690) (by decide +kernel) (by decide +kernel) h
    have h := sp_onk (i := .iload_n 1) (by decide +kernel) rfl h
    have h := sp_iconst (n := 1) (v := 1) (by decide +kernel) (by decide +kernel) h
    have h := sp_onk (i := .iadd) (by decide +kernel) rfl h
    have h := sp_onk (i := .imul) (by decide +kernel) rfl h
    have h := sp_onk (i := .iload_n 2) (by decide +kernel) rfl h
    have h := sp_onk (i := .iadd) (by decide +kernel) rfl h
    obtain ⟨hi, h⟩ := sp_iald (by decide +kernel) h
    refine ⟨hi, ?_⟩
    obtain ⟨hi, h⟩ := sp_iast (by decide +kernel) h
    refine ⟨hi, ?_⟩
    intro w1 ew1
    rw [← ew1] at h
    have hSw1 : SK w1 := by rw [ew1]; exact SK_aS hS
    have h := sp_iinc (j := 2) (n := 1) (v := 1) (ls' := [.ref 147, .int i1, .int (i2 + 1)]) (by decide +kernel) rfl (by decide +kernel) rfl h
    have h := sp_goto (mi := 317) (pc := 52) (off := (-30)) (t := 22) (by decide +kernel) (by decide) rfl h
    exact h
