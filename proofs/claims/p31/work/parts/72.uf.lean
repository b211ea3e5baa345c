/-! ===== what pieces of methods leave (printed by us.py) ===== -/
set_option maxRecDepth 20000 in
set_option maxHeartbeats 2000000 in
theorem U107_0 {X : pm_X} {k : Nat} {w w' : pm_W} {r : Option Value} {q1 : Nat} (hS : SK w) (h : PS X (k + 1) 107 0 [.ref 42, .ref q1, pm_dead, pm_dead, pm_dead] [] w r w') : ∃ (r1 : Option Value) (w2 : pm_W), PS X k 105 0 [.ref q1, pm_dead, pm_dead] [] w r1 w2 ∧ (∀ x3 : Int32, r1 = some (.int x3) → SK w2 → (PS X k 107 7 [.ref 42, .ref q1, .int x3, .int 0, pm_dead] [] w2 r w')) := by
  have h := sp_one (i := .aload_n 1) (by decide +kernel) rfl h
  obtain ⟨r1, w2, hc, h⟩ := sp_callV (jj := 28) (mj := 105) (n := 0) (v := .ref q1) (args := []) (ls' := [.ref q1, pm_dead, pm_dead]) (by decide +kernel) (by decide +kernel) rfl rfl rfl h
  refine ⟨r1, w2, hc, fun x3 er hSw2 => ?_⟩
  subst er
  have h : PS X k 107 4 [.ref 42, .ref q1, pm_dead, pm_dead, pm_dead] [.int x3] w2 r w' := h
  have h := sp_istore_n (j := 2) (ls' := [.ref 42, .ref q1, .int x3, pm_dead, pm_dead]) (by decide +kernel) (Nat.le_of_ble_eq_true rfl) rfl h
  have h := sp_iconst (n := 0) (v := 0) (by decide +kernel) (by decide +kernel) h
  have h := sp_istore_n (j := 3) (ls' := [.ref 42, .ref q1, .int x3, .int 0, pm_dead]) (by decide +kernel) (Nat.le_of_ble_eq_true rfl) rfl h
  exact h
set_option maxRecDepth 20000 in
set_option maxHeartbeats 2000000 in
theorem U107_7 {X : pm_X} {k : Nat} {w w' : pm_W} {r : Option Value} {o1 : Nat} {i2 : Int32} {i3 : Int32} {u4 : Value} (hS : SK w) (h : PS X (k + 1) 107 7 [.ref 42, .ref o1, .int i2, .int i3, u4] [] w r w') : if 9 ≤ i3 then (r = some (.int i2) ∧ w' = w) else (PS X k 107 16 [.ref 42, .ref o1, .int i2, .int i3, .int 0] [] w r w') := by
  have h := sp_one (i := .iload_n 3) (by decide +kernel) rfl h
  have h := sp_bipush (n := 9) (v := 9) (by decide +kernel) (by decide +kernel) h
  rcases sp_icmp_ge (mi := 107) (pc := 10) (off := 54) (t := 64) (by decide +kernel) (by decide) rfl h with ⟨hc, h⟩ | ⟨hc, h⟩
  · refine ite_t hc ?_
    have h := sp_onk (i := .iload_n 2) (by decide +kernel) rfl h
    exact sp_iret (by decide +kernel) h
  · refine ite_f hc ?_
    have h := sp_iconst (n := 0) (v := 0) (by decide +kernel) (by decide +kernel) h
    have h := sp_istore (j := 4) (ls' := [.ref 42, .ref o1, .int i2, .int i3, .int 0]) (by decide +kernel) (Nat.le_of_ble_eq_true rfl) rfl h
    exact h
set_option maxRecDepth 20000 in
set_option maxHeartbeats 2000000 in
theorem U107_16 {X : pm_X} {k : Nat} {w w' : pm_W} {r : Option Value} {o1 : Nat} {i2 : Int32} {i3 : Int32} {i4 : Int32} (hS : SK w) (h : PS X (k + 1) 107 16 [.ref 42, .ref o1, .int i2, .int i3, .int i4] [] w r w') : if i3 ≤ i4 then (PS X k 107 7 [.ref 42, .ref o1, .int i2, .int (i3 + 1), .int i4] [] w r w') else (∃ (r1 : Option Value) (w2 : pm_W), PS X k 52 0 [.int i3, .int i4] [] w r1 w2 ∧ (∀ x3 : Int32, r1 = some (.int x3) → SK w2 → (aI w2 (gR w o1 3) x3 ∧ (∃ (r4 : Option Value) (w5 : pm_W), PS X k 52 0 [.int i4, .int i3] [] w2 r4 w5 ∧ (∀ x6 : Int32, r4 = some (.int x6) → SK w5 → (aI w5 (gR w2 o1 3) x6 ∧ (PS X k 107 16 [.ref 42, .ref o1, .int (i2 - (2 * (if (aG w5 (gR w2 o1 3) x6) < (aG w2 (gR w o1 3) x3) then (aG w5 (gR w2 o1 3) x6) else (aG w2 (gR w o1 3) x3)))), .int i3, .int (i4 + 1)] [] w5 r w'))))))) := by
  have h := sp_one (i := .iload 4) (by decide +kernel) rfl h
  have h := sp_onk (i := .iload_n 3) (by decide +kernel) rfl h
  rcases sp_icmp_ge (mi := 107) (pc := 19) (off := 39) (t := 58) (by decide +kernel) (by decide) rfl h with ⟨hc, h⟩ | ⟨hc, h⟩
  · refine ite_t hc ?_
    have h := sp_iinc (j := 3) (n := 1) (v := 1) (ls' := [.ref 42, .ref o1, .int i2, .int (i3 + 1), .int i4]) (by decide +kernel) rfl (by decide +kernel) rfl h
    have h := sp_goto (mi := 107) (pc := 61) (off := (-54)) (t := 7) (by decide +kernel) (by decide) rfl h
    exact h
  · refine ite_f hc ?_
    have h := sp_onk (i := .iload_n 2) (by decide +kernel) rfl h
    have h := sp_iconst (n := 2) (v := 2) (by decide +kernel) (by decide +kernel) h
    have h := sp_onk (i := .aload_n 1) (by decide +kernel) rfl h
    have h := sp_getR (jj := 32) (ci := 7) (n := 3) (by decide +kernel) (by decide +kernel) (by decide +kernel) hS h
    have h := sp_onk (i := .iload_n 3) (by decide +kernel) rfl h
    have h := sp_onk (i := .iload 4) (by decide +kernel) rfl h
    obtain ⟨r1, w2, hc, h⟩ := sp_callS (jj := 35) (mj := 52) (n := 2) (args := [.int i4, .int i3]) (ls' := [.int i3, .int i4]) (by decide +kernel) (by decide +kernel) (by decide +kernel) rfl rfl rfl h
    refine ⟨r1, w2, hc, fun x3 er hSw2 => ?_⟩
    subst er
    have h : PS X k 107 34 [.ref 42, .ref o1, .int i2, .int i3, .int i4] [.int x3, .ref (gR w o1 3), .int 2, .int i2] w2 r w' := h
    obtain ⟨hi, h⟩ := sp_iald (by decide +kernel) h
    refine ⟨hi, ?_⟩
    have h := sp_onk (i := .aload_n 1) (by decide +kernel) rfl h
    have h := sp_getR (jj := 32) (ci := 7) (n := 3) (by decide +kernel) (by decide +kernel) (by decide +kernel) hSw2 h
    have h := sp_onk (i := .iload 4) (by decide +kernel) rfl h
    have h := sp_onk (i := .iload_n 3) (by decide +kernel) rfl h
    obtain ⟨r4, w5, hc, h⟩ := sp_callS (jj := 35) (mj := 52) (n := 2) (args := [.int i3, .int i4]) (ls' := [.int i4, .int i3]) (by decide +kernel) (by decide +kernel) (by decide +kernel) rfl rfl rfl h
    refine ⟨r4, w5, hc, fun x6 er hSw5 => ?_⟩
    subst er
    have h : PS X k 107 45 [.ref 42, .ref o1, .int i2, .int i3, .int i4] [.int x6, .ref (gR w2 o1 3), .int (aG w2 (gR w o1 3) x3), .int 2, .int i2] w5 r w' := h
    obtain ⟨hi, h⟩ := sp_iald (by decide +kernel) h
    refine ⟨hi, ?_⟩
    have h := sp_min (j := 39) (by decide +kernel) (by decide +kernel) (by decide +kernel) h
    have h := sp_onk (i := .imul) (by decide +kernel) rfl h
    have h := sp_onk (i := .isub) (by decide +kernel) rfl h
    have h := sp_istore_n (j := 2) (ls' := [.ref 42, .ref o1, .int (i2 - (2 * (if (aG w5 (gR w2 o1 3) x6) < (aG w2 (gR w o1 3) x3) then (aG w5 (gR w2 o1 3) x6) else (aG w2 (gR w o1 3) x3)))), .int i3, .int i4]) (by decide +kernel) (Nat.le_of_ble_eq_true rfl) rfl h
    have h := sp_iinc (j := 4) (n := 1) (v := 1) (ls' := [.ref 42, .ref o1, .int (i2 - (2 * (if (aG w5 (gR w2 o1 3) x6) < (aG w2 (gR w o1 3) x3) then (aG w5 (gR w2 o1 3) x6) else (aG w2 (gR w o1 3) x3)))), .int i3, .int (i4 + 1)]) (by decide +kernel) rfl (by decide +kernel) rfl h
    have h := sp_goto (mi := 107) (pc := 55) (off := (-39)) (t := 16) (by decide +kernel) (by decide) rfl h
    exact h
set_option maxRecDepth 20000 in
set_option maxHeartbeats 2000000 in
theorem U108_0 {X : pm_X} {k : Nat} {w w' : pm_W} {r : Option Value} {q1 : Nat} (hS : SK w) (h : PS X (k + 1) 108 0 [.ref 42, .ref q1, pm_dead, pm_dead, pm_dead] [] w r w') : ∃ (r1 : Option Value) (w2 : pm_W), PS X k 93 0 [.ref q1, .int 0, pm_dead] [] w r1 w2 ∧ (∀ x3 : Int32, r1 = some (.int x3) → SK w2 → (if x3 = 0 then (r = some (.int (-1)) ∧ w' = w2) else (cpI w2 (gR w2 q1 3) 43 0 0 81 ∧ (∀ w4 : pm_W, w4 = cpS w2 (gR w2 q1 3) 43 0 0 81 → (PS X k 108 29 [.ref 42, .ref q1, .int 0, .int 0, pm_dead] [] w4 r w'))))) := by
  have h := sp_one (i := .aload_n 1) (by decide +kernel) rfl h
  have h := sp_iconst (n := 0) (v := 0) (by decide +kernel) (by decide +kernel) h
  obtain ⟨r1, w2, hc, h⟩ := sp_callV (jj := 77) (mj := 93) (n := 1) (v := .ref q1) (args := [.int 0]) (ls' := [.ref q1, .int 0, pm_dead]) (by decide +kernel) (by decide +kernel) rfl rfl rfl h
  refine ⟨r1, w2, hc, fun x3 er hSw2 => ?_⟩
  subst er
  have h : PS X k 108 5 [.ref 42, .ref q1, pm_dead, pm_dead, pm_dead] [.int x3] w2 r w' := h
  rcases sp_if_ne (mi := 108) (pc := 5) (off := 5) (t := 10) (by decide +kernel) (by decide) rfl h with ⟨hc, h⟩ | ⟨hc, h⟩
  · refine ite_f hc ?_
    have h := sp_onk (i := .aload_n 1) (by decide +kernel) rfl h
    have h := sp_getR (jj := 32) (ci := 7) (n := 3) (by decide +kernel) (by decide +kernel) (by decide +kernel) hSw2 h
    have h := sp_iconst (n := 0) (v := 0) (by decide +kernel) (by decide +kernel) h
    have h := sp_onk (i := .aload_n 0) (by decide +kernel) rfl h
    have h := sp_getK (jj := 9) (ci := 1) (n := 0) (b := 43) (by decide +kernel) (by decide +kernel) (by decide +kernel) (by decide +kernel) (by decide) hSw2 h
    have h := sp_iconst (n := 0) (v := 0) (by decide +kernel) (by decide +kernel) h
    have h := sp_bipush (n := 81) (v := 81) (by decide +kernel) (by decide +kernel) h
    obtain ⟨hi, h⟩ := sp_copy (j := 80) (by decide +kernel) (by decide +kernel) (by decide +kernel) h
    refine ⟨hi, ?_⟩
    intro w4 ew4
    rw [← ew4] at h
    have hSw4 : SK w4 := by rw [ew4]; exact SK_cpS hi hSw2
    have h := sp_iconst (n := 0) (v := 0) (by decide +kernel) (by decide +kernel) h
    have h := sp_istore_n (j := 2) (ls' := [.ref 42, .ref q1, .int 0, pm_dead, pm_dead]) (by decide +kernel) (Nat.le_of_ble_eq_true rfl) rfl h
    have h := sp_iconst (n := 0) (v := 0) (by decide +kernel) (by decide +kernel) h
    have h := sp_istore_n (j := 3) (ls' := [.ref 42, .ref q1, .int 0, .int 0, pm_dead]) (by decide +kernel) (Nat.le_of_ble_eq_true rfl) rfl h
    exact h
  · refine ite_t (Classical.not_not.mp hc) ?_
    have h := sp_iconst (n := (-1)) (v := (-1)) (by decide +kernel) (by decide +kernel) h
    exact sp_iret (by decide +kernel) h
set_option maxRecDepth 20000 in
set_option maxHeartbeats 2000000 in
theorem U108_29 {X : pm_X} {k : Nat} {w w' : pm_W} {r : Option Value} {o1 : Nat} {i2 : Int32} {i3 : Int32} {u4 : Value} (hS : SK w) (h : PS X (k + 1) 108 29 [.ref 42, .ref o1, .int i2, .int i3, u4] [] w r w') : if 81 ≤ i3 then (r = some (.int i2) ∧ w' = w) else (∃ (r1 : Option Value) (w2 : pm_W), PS X k 109 0 [.ref 42, pm_dead] [] w r1 w2 ∧ (∀ x3 : Int32, r1 = some (.int x3) → SK w2 → (if x3 = (-1) then (r = some (.int i2) ∧ w' = w2) else (∃ (r4 : Option Value) (w5 : pm_W), PS X k 111 0 [.ref 42, .int x3, pm_dead, pm_dead, pm_dead, pm_dead, pm_dead] [] w2 r4 w5 ∧ (r4 = none → SK w5 → (PS X k 108 29 [.ref 42, .ref o1, .int (i2 + 1), .int (i3 + 1), .int x3] [] w5 r w')))))) := by
  have h := sp_one (i := .iload_n 3) (by decide +kernel) rfl h
  have h := sp_bipush (n := 81) (v := 81) (by decide +kernel) (by decide +kernel) h
  rcases sp_icmp_ge (mi := 108) (pc := 32) (off := 33) (t := 65) (by decide +kernel) (by decide) rfl h with ⟨hc, h⟩ | ⟨hc, h⟩
  · refine ite_t hc ?_
    have h := sp_onk (i := .iload_n 2) (by decide +kernel) rfl h
    exact sp_iret (by decide +kernel) h
  · refine ite_f hc ?_
    have h := sp_onk (i := .aload_n 0) (by decide +kernel) rfl h
    obtain ⟨r1, w2, hc, h⟩ := sp_callV (jj := 86) (mj := 109) (n := 0) (v := .ref 42) (args := []) (ls' := [.ref 42, pm_dead]) (by decide +kernel) (by decide +kernel) rfl rfl rfl h
    refine ⟨r1, w2, hc, fun x3 er hSw2 => ?_⟩
    subst er
    have h : PS X k 108 39 [.ref 42, .ref o1, .int i2, .int i3, u4] [.int x3] w2 r w' := h
    have h := sp_istore (j := 4) (ls' := [.ref 42, .ref o1, .int i2, .int i3, .int x3]) (by decide +kernel) (Nat.le_of_ble_eq_true rfl) rfl h
    have h := sp_onk (i := .iload 4) (by decide +kernel) rfl h
    have h := sp_iconst (n := (-1)) (v := (-1)) (by decide +kernel) (by decide +kernel) h
    rcases sp_icmp_ne (mi := 108) (pc := 44) (off := 6) (t := 50) (by decide +kernel) (by decide) rfl h with ⟨hc, h⟩ | ⟨hc, h⟩
    · refine ite_f hc ?_
      have h := sp_onk (i := .aload_n 0) (by decide +kernel) rfl h
      have h := sp_onk (i := .iload 4) (by decide +kernel) rfl h
      obtain ⟨r4, w5, hc, h⟩ := sp_callV (jj := 89) (mj := 111) (n := 1) (v := .ref 42) (args := [.int x3]) (ls' := [.ref 42, .int x3, pm_dead, pm_dead, pm_dead, pm_dead, pm_dead]) (by decide +kernel) (by decide +kernel) rfl rfl rfl h
      refine ⟨r4, w5, hc, fun er hSw5 => ?_⟩
      subst er
      have h : PS X k 108 56 [.ref 42, .ref o1, .int i2, .int i3, .int x3] [] w5 r w' := h
      have h := sp_iinc (j := 2) (n := 1) (v := 1) (ls' := [.ref 42, .ref o1, .int (i2 + 1), .int i3, .int x3]) (by decide +kernel) rfl (by decide +kernel) rfl h
      have h := sp_iinc (j := 3) (n := 1) (v := 1) (ls' := [.ref 42, .ref o1, .int (i2 + 1), .int (i3 + 1), .int x3]) (by decide +kernel) rfl (by decide +kernel) rfl h
      have h := sp_goto (mi := 108) (pc := 62) (off := (-33)) (t := 29) (by decide +kernel) (by decide) rfl h
      exact h
    · refine ite_t (Classical.not_not.mp hc) ?_
      have h := sp_goto (mi := 108) (pc := 47) (off := 18) (t := 65) (by decide +kernel) (by decide) rfl h
      have h := sp_onk (i := .iload_n 2) (by decide +kernel) rfl h
      exact sp_iret (by decide +kernel) h
set_option maxRecDepth 20000 in
set_option maxHeartbeats 2000000 in
theorem U109_0 {X : pm_X} {k : Nat} {w w' : pm_W} {r : Option Value} (hS : SK w) (h : PS X (k + 1) 109 0 [.ref 42, pm_dead] [] w r w') : PS X k 109 2 [.ref 42, .int 0] [] w r w' := by
  have h := sp_iconst1 (n := 0) (v := 0) (by decide +kernel) (by decide +kernel) h
  have h := sp_istore_n (j := 1) (ls' := [.ref 42, .int 0]) (by decide +kernel) (Nat.le_of_ble_eq_true rfl) rfl h
  exact h
set_option maxRecDepth 20000 in
set_option maxHeartbeats 2000000 in
theorem U109_2 {X : pm_X} {k : Nat} {w w' : pm_W} {r : Option Value} {i1 : Int32} (hS : SK w) (h : PS X (k + 1) 109 2 [.ref 42, .int i1] [] w r w') : if 9 ≤ i1 then (r = some (.int (-1)) ∧ w' = w) else (∃ (r1 : Option Value) (w2 : pm_W), PS X k 110 0 [.ref 42, .int i1, pm_dead] [] w r1 w2 ∧ (∀ x3 : Int32, r1 = some (.int x3) → SK w2 → (if x3 = (-1) then (PS X k 109 2 [.ref 42, .int (i1 + 1)] [] w2 r w') else (r = some (.int i1) ∧ w' = w2)))) := by
  have h := sp_one (i := .iload_n 1) (by decide +kernel) rfl h
  have h := sp_bipush (n := 9) (v := 9) (by decide +kernel) (by decide +kernel) h
  rcases sp_icmp_ge (mi := 109) (pc := 5) (off := 20) (t := 25) (by decide +kernel) (by decide) rfl h with ⟨hc, h⟩ | ⟨hc, h⟩
  · refine ite_t hc ?_
    have h := sp_iconst (n := (-1)) (v := (-1)) (by decide +kernel) (by decide +kernel) h
    exact sp_iret (by decide +kernel) h
  · refine ite_f hc ?_
    have h := sp_onk (i := .aload_n 0) (by decide +kernel) rfl h
    have h := sp_onk (i := .iload_n 1) (by decide +kernel) rfl h
    obtain ⟨r1, w2, hc, h⟩ := sp_callV (jj := 93) (mj := 110) (n := 1) (v := .ref 42) (args := [.int i1]) (ls' := [.ref 42, .int i1, pm_dead]) (by decide +kernel) (by decide +kernel) rfl rfl rfl h
    refine ⟨r1, w2, hc, fun x3 er hSw2 => ?_⟩
    subst er
    have h : PS X k 109 13 [.ref 42, .int i1] [.int x3] w2 r w' := h
    have h := sp_iconst (n := (-1)) (v := (-1)) (by decide +kernel) (by decide +kernel) h
    rcases sp_icmp_eq (mi := 109) (pc := 14) (off := 5) (t := 19) (by decide +kernel) (by decide) rfl h with ⟨hc, h⟩ | ⟨hc, h⟩
    · refine ite_t hc ?_
      have h := sp_iinc (j := 1) (n := 1) (v := 1) (ls' := [.ref 42, .int (i1 + 1)]) (by decide +kernel) rfl (by decide +kernel) rfl h
      have h := sp_goto (mi := 109) (pc := 22) (off := (-20)) (t := 2) (by decide +kernel) (by decide) rfl h
      exact h
    · refine ite_f hc ?_
      have h := sp_onk (i := .iload_n 1) (by decide +kernel) rfl h
      exact sp_iret (by decide +kernel) h
set_option maxRecDepth 20000 in
set_option maxHeartbeats 2000000 in
theorem U110_0 {X : pm_X} {k : Nat} {w w' : pm_W} {r : Option Value} {p1 : Int32} (hS : SK w) (h : PS X (k + 1) 110 0 [.ref 42, .int p1, pm_dead] [] w r w') : PS X k 110 2 [.ref 42, .int p1, .int 0] [] w r w' := by
  have h := sp_iconst1 (n := 0) (v := 0) (by decide +kernel) (by decide +kernel) h
  have h := sp_istore_n (j := 2) (ls' := [.ref 42, .int p1, .int 0]) (by decide +kernel) (Nat.le_of_ble_eq_true rfl) rfl h
  exact h
set_option maxRecDepth 20000 in
set_option maxHeartbeats 2000000 in
theorem U110_2 {X : pm_X} {k : Nat} {w w' : pm_W} {r : Option Value} {i1 : Int32} {i2 : Int32} (hS : SK w) (h : PS X (k + 1) 110 2 [.ref 42, .int i1, .int i2] [] w r w') : if 9 ≤ i2 then (r = some (.int (-1)) ∧ w' = w) else (∃ (r1 : Option Value) (w2 : pm_W), PS X k 52 0 [.int i1, .int i2] [] w r1 w2 ∧ (∀ x3 : Int32, r1 = some (.int x3) → SK w2 → (aI w2 43 x3 ∧ (if (aG w2 43 x3) ≤ 0 then (PS X k 110 2 [.ref 42, .int i1, .int (i2 + 1)] [] w2 r w') else (r = some (.int i2) ∧ w' = w2))))) := by
  have h := sp_one (i := .iload_n 2) (by decide +kernel) rfl h
  have h := sp_bipush (n := 9) (v := 9) (by decide +kernel) (by decide +kernel) h
  rcases sp_icmp_ge (mi := 110) (pc := 5) (off := 24) (t := 29) (by decide +kernel) (by decide) rfl h with ⟨hc, h⟩ | ⟨hc, h⟩
  · refine ite_t hc ?_
    have h := sp_iconst (n := (-1)) (v := (-1)) (by decide +kernel) (by decide +kernel) h
    exact sp_iret (by decide +kernel) h
  · refine ite_f hc ?_
    have h := sp_onk (i := .aload_n 0) (by decide +kernel) rfl h
    have h := sp_getK (jj := 9) (ci := 1) (n := 0) (b := 43) (by decide +kernel) (by decide +kernel) (by decide +kernel) (by decide +kernel) (by decide) hS h
    have h := sp_onk (i := .iload_n 1) (by decide +kernel) rfl h
    have h := sp_onk (i := .iload_n 2) (by decide +kernel) rfl h
    obtain ⟨r1, w2, hc, h⟩ := sp_callS (jj := 35) (mj := 52) (n := 2) (args := [.int i2, .int i1]) (ls' := [.int i1, .int i2]) (by decide +kernel) (by decide +kernel) (by decide +kernel) rfl rfl rfl h
    refine ⟨r1, w2, hc, fun x3 er hSw2 => ?_⟩
    subst er
    have h : PS X k 110 17 [.ref 42, .int i1, .int i2] [.int x3, .ref 43] w2 r w' := h
    obtain ⟨hi, h⟩ := sp_iald (by decide +kernel) h
    refine ⟨hi, ?_⟩
    rcases sp_if_le (mi := 110) (pc := 18) (off := 5) (t := 23) (by decide +kernel) (by decide) rfl h with ⟨hc, h⟩ | ⟨hc, h⟩
    · refine ite_t hc ?_
      have h := sp_iinc (j := 2) (n := 1) (v := 1) (ls' := [.ref 42, .int i1, .int (i2 + 1)]) (by decide +kernel) rfl (by decide +kernel) rfl h
      have h := sp_goto (mi := 110) (pc := 26) (off := (-24)) (t := 2) (by decide +kernel) (by decide) rfl h
      exact h
    · refine ite_f hc ?_
      have h := sp_onk (i := .iload_n 2) (by decide +kernel) rfl h
      exact sp_iret (by decide +kernel) h
set_option maxRecDepth 20000 in
set_option maxHeartbeats 2000000 in
theorem U111_0 {X : pm_X} {k : Nat} {w w' : pm_W} {r : Option Value} {p1 : Int32} (hS : SK w) (h : PS X (k + 1) 111 0 [.ref 42, .int p1, pm_dead, pm_dead, pm_dead, pm_dead, pm_dead] [] w r w') : ∃ (r1 : Option Value) (w2 : pm_W), PS X k 20 0 [.ref 45, .int (-1), pm_dead, pm_dead] [] w r1 w2 ∧ (r1 = none → SK w2 → (PS X k 111 12 [.ref 42, .int p1, .int p1, .int 0, pm_dead, pm_dead, pm_dead] [] w2 r w')) := by
  have h := sp_one (i := .aload_n 0) (by decide +kernel) rfl h
  have h := sp_getK (jj := 18) (ci := 1) (n := 2) (b := 45) (by decide +kernel) (by decide +kernel) (by decide +kernel) (by decide +kernel) (by decide) hS h
  have h := sp_iconst (n := (-1)) (v := (-1)) (by decide +kernel) (by decide +kernel) h
  obtain ⟨r1, w2, hc, h⟩ := sp_callS (jj := 97) (mj := 20) (n := 2) (args := [.int (-1), .ref 45]) (ls' := [.ref 45, .int (-1), pm_dead, pm_dead]) (by decide +kernel) (by decide +kernel) (by decide +kernel) rfl rfl rfl h
  refine ⟨r1, w2, hc, fun er hSw2 => ?_⟩
  subst er
  have h : PS X k 111 8 [.ref 42, .int p1, pm_dead, pm_dead, pm_dead, pm_dead, pm_dead] [] w2 r w' := h
  have h := sp_onk (i := .iload_n 1) (by decide +kernel) rfl h
  have h := sp_istore_n (j := 2) (ls' := [.ref 42, .int p1, .int p1, pm_dead, pm_dead, pm_dead, pm_dead]) (by decide +kernel) (Nat.le_of_ble_eq_true rfl) rfl h
  have h := sp_iconst (n := 0) (v := 0) (by decide +kernel) (by decide +kernel) h
  have h := sp_istore_n (j := 3) (ls' := [.ref 42, .int p1, .int p1, .int 0, pm_dead, pm_dead, pm_dead]) (by decide +kernel) (Nat.le_of_ble_eq_true rfl) rfl h
  exact h
set_option maxRecDepth 20000 in
set_option maxHeartbeats 2000000 in
theorem U111_12 {X : pm_X} {k : Nat} {w w' : pm_W} {r : Option Value} {i1 : Int32} {i2 : Int32} {i3 : Int32} (hS : SK w) (h : PS X (k + 1) 111 12 [.ref 42, .int i1, .int i2, .int i3, pm_dead, pm_dead, pm_dead] [] w r w') : if 9 ≤ i3 then (if i2 = (-1) then (r = none ∧ w' = w) else (aI w 45 i2 ∧ (PS X k 111 81 [.ref 42, .int i1, .int i2, .int i3, .int (aG w 45 i2), .int 1000000, .int (aG w 45 i2)] [] w r w'))) else (if i2 = (-1) then (if i2 = (-1) then (r = none ∧ w' = w) else (aI w 45 i2 ∧ (PS X k 111 81 [.ref 42, .int i1, .int i2, .int i3, .int (aG w 45 i2), .int 1000000, .int (aG w 45 i2)] [] w r w'))) else (aI w 45 i2 ∧ (if (aG w 45 i2) = (-1) then (aI w 45 i2 ∧ (∀ w1 : pm_W, w1 = aS w 45 i2 i3 → (aI w1 44 i3 ∧ (∀ w2 : pm_W, w2 = aS w1 44 i3 i2 → (∃ (r3 : Option Value) (w4 : pm_W), PS X k 110 0 [.ref 42, .int i2, pm_dead] [] w2 r3 w4 ∧ (∀ x5 : Int32, r3 = some (.int x5) → SK w4 → (PS X k 111 12 [.ref 42, .int i1, .int x5, .int (i3 + 1), pm_dead, pm_dead, pm_dead] [] w4 r w'))))))) else (if i2 = (-1) then (r = none ∧ w' = w) else (aI w 45 i2 ∧ (PS X k 111 81 [.ref 42, .int i1, .int i2, .int i3, .int (aG w 45 i2), .int 1000000, .int (aG w 45 i2)] [] w r w')))))) := by
  have h := sp_one (i := .iload_n 3) (by decide +kernel) rfl h
  have h := sp_bipush (n := 9) (v := 9) (by decide +kernel) (by decide +kernel) h
  rcases sp_icmp_ge (mi := 111) (pc := 15) (off := 44) (t := 59) (by decide +kernel) (by decide) rfl h with ⟨hc, h⟩ | ⟨hc, h⟩
  · refine ite_t hc ?_
    have h := sp_onk (i := .iload_n 2) (by decide +kernel) rfl h
    have h := sp_iconst (n := (-1)) (v := (-1)) (by decide +kernel) (by decide +kernel) h
    rcases sp_icmp_ne (mi := 111) (pc := 61) (off := 4) (t := 65) (by decide +kernel) (by decide) rfl h with ⟨hc, h⟩ | ⟨hc, h⟩
    · refine ite_f hc ?_
      have h := sp_onk (i := .aload_n 0) (by decide +kernel) rfl h
      have h := sp_getK (jj := 18) (ci := 1) (n := 2) (b := 45) (by decide +kernel) (by decide +kernel) (by decide +kernel) (by decide +kernel) (by decide) hS h
      have h := sp_onk (i := .iload_n 2) (by decide +kernel) rfl h
      obtain ⟨hi, h⟩ := sp_iald (by decide +kernel) h
      refine ⟨hi, ?_⟩
      have h := sp_istore (j := 4) (ls' := [.ref 42, .int i1, .int i2, .int i3, .int (aG w 45 i2), pm_dead, pm_dead]) (by decide +kernel) (Nat.le_of_ble_eq_true rfl) rfl h
      have h := sp_ldc (j := 103) (v := 1000000) (by decide +kernel) (by decide +kernel) h
      have h := sp_istore (j := 5) (ls' := [.ref 42, .int i1, .int i2, .int i3, .int (aG w 45 i2), .int 1000000, pm_dead]) (by decide +kernel) (Nat.le_of_ble_eq_true rfl) rfl h
      have h := sp_onk (i := .iload 4) (by decide +kernel) rfl h
      have h := sp_istore (j := 6) (ls' := [.ref 42, .int i1, .int i2, .int i3, .int (aG w 45 i2), .int 1000000, .int (aG w 45 i2)]) (by decide +kernel) (Nat.le_of_ble_eq_true rfl) rfl h
      exact h
    · refine ite_t (Classical.not_not.mp hc) ?_
      exact sp_vret (by decide +kernel) h
  · refine ite_f hc ?_
    have h := sp_onk (i := .iload_n 2) (by decide +kernel) rfl h
    have h := sp_iconst (n := (-1)) (v := (-1)) (by decide +kernel) (by decide +kernel) h
    rcases sp_icmp_eq (mi := 111) (pc := 20) (off := 39) (t := 59) (by decide +kernel) (by decide) rfl h with ⟨hc, h⟩ | ⟨hc, h⟩
    · refine ite_t hc ?_
      have h := sp_onk (i := .iload_n 2) (by decide +kernel) rfl h
      have h := sp_iconst (n := (-1)) (v := (-1)) (by decide +kernel) (by decide +kernel) h
      rcases sp_icmp_ne (mi := 111) (pc := 61) (off := 4) (t := 65) (by decide +kernel) (by decide) rfl h with ⟨hc, h⟩ | ⟨hc, h⟩
      · refine ite_f hc ?_
        have h := sp_onk (i := .aload_n 0) (by decide +kernel) rfl h
        have h := sp_getK (jj := 18) (ci := 1) (n := 2) (b := 45) (by decide +kernel) (by decide +kernel) (by decide +kernel) (by decide +kernel) (by decide) hS h
        have h := sp_onk (i := .iload_n 2) (by decide +kernel) rfl h
        obtain ⟨hi, h⟩ := sp_iald (by decide +kernel) h
        refine ⟨hi, ?_⟩
        have h := sp_istore (j := 4) (ls' := [.ref 42, .int i1, .int i2, .int i3, .int (aG w 45 i2), pm_dead, pm_dead]) (by decide +kernel) (Nat.le_of_ble_eq_true rfl) rfl h
        have h := sp_ldc (j := 103) (v := 1000000) (by decide +kernel) (by decide +kernel) h
        have h := sp_istore (j := 5) (ls' := [.ref 42, .int i1, .int i2, .int i3, .int (aG w 45 i2), .int 1000000, pm_dead]) (by decide +kernel) (Nat.le_of_ble_eq_true rfl) rfl h
        have h := sp_onk (i := .iload 4) (by decide +kernel) rfl h
        have h := sp_istore (j := 6) (ls' := [.ref 42, .int i1, .int i2, .int i3, .int (aG w 45 i2), .int 1000000, .int (aG w 45 i2)]) (by decide +kernel) (Nat.le_of_ble_eq_true rfl) rfl h
        exact h
      · refine ite_t (Classical.not_not.mp hc) ?_
        exact sp_vret (by decide +kernel) h
    · refine ite_f hc ?_
      have h := sp_onk (i := .aload_n 0) (by decide +kernel) rfl h
      have h := sp_getK (jj := 18) (ci := 1) (n := 2) (b := 45) (by decide +kernel) (by decide +kernel) (by decide +kernel) (by decide +kernel) (by decide) hS h
      have h := sp_onk (i := .iload_n 2) (by decide +kernel) rfl h
      obtain ⟨hi, h⟩ := sp_iald (by decide +kernel) h
      refine ⟨hi, ?_⟩
      have h := sp_iconst (n := (-1)) (v := (-1)) (by decide +kernel) (by decide +kernel) h
      rcases sp_icmp_ne (mi := 111) (pc := 30) (off := 29) (t := 59) (by decide +kernel) (by decide) rfl h with ⟨hc, h⟩ | ⟨hc, h⟩
      · refine ite_f hc ?_
        have h := sp_onk (i := .iload_n 2) (by decide +kernel) rfl h
        have h := sp_iconst (n := (-1)) (v := (-1)) (by decide +kernel) (by decide +kernel) h
        rcases sp_icmp_ne (mi := 111) (pc := 61) (off := 4) (t := 65) (by decide +kernel) (by decide) rfl h with ⟨hc, h⟩ | ⟨hc, h⟩
        · refine ite_f hc ?_
          have h := sp_onk (i := .aload_n 0) (by decide +kernel) rfl h
          have h := sp_getK (jj := 18) (ci := 1) (n := 2) (b := 45) (by decide +kernel) (by decide +kernel) (by decide +kernel) (by decide +kernel) (by decide) hS h
          have h := sp_onk (i := .iload_n 2) (by decide +kernel) rfl h
          obtain ⟨hi, h⟩ := sp_iald (by decide +kernel) h
          refine ⟨hi, ?_⟩
          have h := sp_istore (j := 4) (ls' := [.ref 42, .int i1, .int i2, .int i3, .int (aG w 45 i2), pm_dead, pm_dead]) (by decide +kernel) (Nat.le_of_ble_eq_true rfl) rfl h
          have h := sp_ldc (j := 103) (v := 1000000) (by decide +kernel) (by decide +kernel) h
          have h := sp_istore (j := 5) (ls' := [.ref 42, .int i1, .int i2, .int i3, .int (aG w 45 i2), .int 1000000, pm_dead]) (by decide +kernel) (Nat.le_of_ble_eq_true rfl) rfl h
          have h := sp_onk (i := .iload 4) (by decide +kernel) rfl h
          have h := sp_istore (j := 6) (ls' := [.ref 42, .int i1, .int i2, .int i3, .int (aG w 45 i2), .int 1000000, .int (aG w 45 i2)]) (by decide +kernel) (Nat.le_of_ble_eq_true rfl) rfl h
          exact h
        · refine ite_t (Classical.not_not.mp hc) ?_
          exact sp_vret (by decide +kernel) h
      · refine ite_t (Classical.not_not.mp hc) ?_
        have h := sp_onk (i := .aload_n 0) (by decide +kernel) rfl h
        have h := sp_getK (jj := 18) (ci := 1) (n := 2) (b := 45) (by decide +kernel) (by decide +kernel) (by decide +kernel) (by decide +kernel) (by decide) hS h
        have h := sp_onk (i := .iload_n 2) (by decide +kernel) rfl h
        have h := sp_onk (i := .iload_n 3) (by decide +kernel) rfl h
        obtain ⟨hi, h⟩ := sp_iast (by decide +kernel) h
        refine ⟨hi, ?_⟩
        intro w1 ew1
        rw [← ew1] at h
        have hSw1 : SK w1 := by rw [ew1]; exact SK_aS hS
        have h := sp_onk (i := .aload_n 0) (by decide +kernel) rfl h
        have h := sp_getK (jj := 15) (ci := 1) (n := 1) (b := 44) (by decide +kernel) (by decide +kernel) (by decide +kernel) (by decide +kernel) (by decide) hSw1 h
        have h := sp_onk (i := .iload_n 3) (by decide +kernel) rfl h
        have h := sp_onk (i := .iload_n 2) (by decide +kernel) rfl h
        obtain ⟨hi, h⟩ := sp_iast (by decide +kernel) h
        refine ⟨hi, ?_⟩
        intro w2 ew2
        rw [← ew2] at h
        have hSw2 : SK w2 := by rw [ew2]; exact SK_aS hSw1
        have h := sp_iinc (j := 3) (n := 1) (v := 1) (ls' := [.ref 42, .int i1, .int i2, .int (i3 + 1), pm_dead, pm_dead, pm_dead]) (by decide +kernel) rfl (by decide +kernel) rfl h
        have h := sp_onk (i := .aload_n 0) (by decide +kernel) rfl h
        have h := sp_onk (i := .iload_n 2) (by decide +kernel) rfl h
        obtain ⟨r3, w4, hc, h⟩ := sp_callV (jj := 93) (mj := 110) (n := 1) (v := .ref 42) (args := [.int i2]) (ls' := [.ref 42, .int i2, pm_dead]) (by decide +kernel) (by decide +kernel) rfl rfl rfl h
        refine ⟨r3, w4, hc, fun x5 er hSw4 => ?_⟩
        subst er
        have h : PS X k 111 55 [.ref 42, .int i1, .int i2, .int (i3 + 1), pm_dead, pm_dead, pm_dead] [.int x5] w4 r w' := h
        have h := sp_istore_n (j := 2) (ls' := [.ref 42, .int i1, .int x5, .int (i3 + 1), pm_dead, pm_dead, pm_dead]) (by decide +kernel) (Nat.le_of_ble_eq_true rfl) rfl h
        have h := sp_goto (mi := 111) (pc := 56) (off := (-44)) (t := 12) (by decide +kernel) (by decide) rfl h
        exact h
set_option maxRecDepth 20000 in
set_option maxHeartbeats 2000000 in
theorem U111_81 {X : pm_X} {k : Nat} {w w' : pm_W} {r : Option Value} {i1 : Int32} {i2 : Int32} {i3 : Int32} {i4 : Int32} {i5 : Int32} {i6 : Int32} (hS : SK w) (h : PS X (k + 1) 111 81 [.ref 42, .int i1, .int i2, .int i3, .int i4, .int i5, .int i6] [] w r w') : if i3 ≤ i6 then (PS X k 111 118 [.ref 42, .int i1, .int i2, .int i3, .int i4, .int i5, .int i4] [] w r w') else (∃ (r1 : Option Value) (w2 : pm_W), PS X k 112 0 [.ref 42, .int i6, .int i4, .int i3] [] w r1 w2 ∧ (∀ x3 : Int32, r1 = some (.int x3) → SK w2 → (aI w2 43 x3 ∧ (PS X k 111 81 [.ref 42, .int i1, .int i2, .int i3, .int i4, .int (if (aG w2 43 x3) < i5 then (aG w2 43 x3) else i5), .int (i6 + 1)] [] w2 r w')))) := by
  have h := sp_one (i := .iload 6) (by decide +kernel) rfl h
  have h := sp_onk (i := .iload_n 3) (by decide +kernel) rfl h
  rcases sp_icmp_ge (mi := 111) (pc := 84) (off := 30) (t := 114) (by decide +kernel) (by decide) rfl h with ⟨hc, h⟩ | ⟨hc, h⟩
  · refine ite_t hc ?_
    have h := sp_onk (i := .iload 4) (by decide +kernel) rfl h
    have h := sp_istore (j := 6) (ls' := [.ref 42, .int i1, .int i2, .int i3, .int i4, .int i5, .int i4]) (by decide +kernel) (Nat.le_of_ble_eq_true rfl) rfl h
    exact h
  · refine ite_f hc ?_
    have h := sp_onk (i := .iload 5) (by decide +kernel) rfl h
    have h := sp_onk (i := .aload_n 0) (by decide +kernel) rfl h
    have h := sp_getK (jj := 9) (ci := 1) (n := 0) (b := 43) (by decide +kernel) (by decide +kernel) (by decide +kernel) (by decide +kernel) (by decide) hS h
    have h := sp_onk (i := .aload_n 0) (by decide +kernel) rfl h
    have h := sp_onk (i := .iload 6) (by decide +kernel) rfl h
    have h := sp_onk (i := .iload 4) (by decide +kernel) rfl h
    have h := sp_onk (i := .iload_n 3) (by decide +kernel) rfl h
    obtain ⟨r1, w2, hc, h⟩ := sp_callV (jj := 104) (mj := 112) (n := 3) (v := .ref 42) (args := [.int i3, .int i4, .int i6]) (ls' := [.ref 42, .int i6, .int i4, .int i3]) (by decide +kernel) (by decide +kernel) rfl rfl rfl h
    refine ⟨r1, w2, hc, fun x3 er hSw2 => ?_⟩
    subst er
    have h : PS X k 111 102 [.ref 42, .int i1, .int i2, .int i3, .int i4, .int i5, .int i6] [.int x3, .ref 43, .int i5] w2 r w' := h
    obtain ⟨hi, h⟩ := sp_iald (by decide +kernel) h
    refine ⟨hi, ?_⟩
    have h := sp_min (j := 39) (by decide +kernel) (by decide +kernel) (by decide +kernel) h
    have h := sp_istore (j := 5) (ls' := [.ref 42, .int i1, .int i2, .int i3, .int i4, .int (if (aG w2 43 x3) < i5 then (aG w2 43 x3) else i5), .int i6]) (by decide +kernel) (Nat.le_of_ble_eq_true rfl) rfl h
    have h := sp_iinc (j := 6) (n := 1) (v := 1) (ls' := [.ref 42, .int i1, .int i2, .int i3, .int i4, .int (if (aG w2 43 x3) < i5 then (aG w2 43 x3) else i5), .int (i6 + 1)]) (by decide +kernel) rfl (by decide +kernel) rfl h
    have h := sp_goto (mi := 111) (pc := 111) (off := (-30)) (t := 81) (by decide +kernel) (by decide) rfl h
    exact h
set_option maxRecDepth 20000 in
set_option maxHeartbeats 2000000 in
theorem U111_118 {X : pm_X} {k : Nat} {w w' : pm_W} {r : Option Value} {i1 : Int32} {i2 : Int32} {i3 : Int32} {i4 : Int32} {i5 : Int32} {i6 : Int32} (hS : SK w) (h : PS X (k + 1) 111 118 [.ref 42, .int i1, .int i2, .int i3, .int i4, .int i5, .int i6] [] w r w') : if i3 ≤ i6 then (r = none ∧ w' = w) else (∃ (r1 : Option Value) (w2 : pm_W), PS X k 112 0 [.ref 42, .int i6, .int i4, .int i3] [] w r1 w2 ∧ (∀ x3 : Int32, r1 = some (.int x3) → SK w2 → (aI w2 43 x3 ∧ (aI w2 43 x3 ∧ (∀ w4 : pm_W, w4 = aS w2 43 x3 ((aG w2 43 x3) - i5) → (PS X k 111 118 [.ref 42, .int i1, .int i2, .int i3, .int i4, .int i5, .int (i6 + 1)] [] w4 r w')))))) := by
  have h := sp_one (i := .iload 6) (by decide +kernel) rfl h
  have h := sp_onk (i := .iload_n 3) (by decide +kernel) rfl h
  rcases sp_icmp_ge (mi := 111) (pc := 121) (off := 28) (t := 149) (by decide +kernel) (by decide) rfl h with ⟨hc, h⟩ | ⟨hc, h⟩
  · refine ite_t hc ?_
    exact sp_vret (by decide +kernel) h
  · refine ite_f hc ?_
    have h := sp_onk (i := .aload_n 0) (by decide +kernel) rfl h
    have h := sp_getK (jj := 9) (ci := 1) (n := 0) (b := 43) (by decide +kernel) (by decide +kernel) (by decide +kernel) (by decide +kernel) (by decide) hS h
    have h := sp_onk (i := .aload_n 0) (by decide +kernel) rfl h
    have h := sp_onk (i := .iload 6) (by decide +kernel) rfl h
    have h := sp_onk (i := .iload 4) (by decide +kernel) rfl h
    have h := sp_onk (i := .iload_n 3) (by decide +kernel) rfl h
    obtain ⟨r1, w2, hc, h⟩ := sp_callV (jj := 104) (mj := 112) (n := 3) (v := .ref 42) (args := [.int i3, .int i4, .int i6]) (ls' := [.ref 42, .int i6, .int i4, .int i3]) (by decide +kernel) (by decide +kernel) rfl rfl rfl h
    refine ⟨r1, w2, hc, fun x3 er hSw2 => ?_⟩
    subst er
    have h : PS X k 111 137 [.ref 42, .int i1, .int i2, .int i3, .int i4, .int i5, .int i6] [.int x3, .ref 43] w2 r w' := h
    have h := sp_onk (i := .dup2) (by decide +kernel) rfl h
    obtain ⟨hi, h⟩ := sp_iald (by decide +kernel) h
    refine ⟨hi, ?_⟩
    have h := sp_onk (i := .iload 5) (by decide +kernel) rfl h
    have h := sp_onk (i := .isub) (by decide +kernel) rfl h
    obtain ⟨hi, h⟩ := sp_iast (by decide +kernel) h
    refine ⟨hi, ?_⟩
    intro w4 ew4
    rw [← ew4] at h
    have hSw4 : SK w4 := by rw [ew4]; exact SK_aS hSw2
    have h := sp_iinc (j := 6) (n := 1) (v := 1) (ls' := [.ref 42, .int i1, .int i2, .int i3, .int i4, .int i5, .int (i6 + 1)]) (by decide +kernel) rfl (by decide +kernel) rfl h
    have h := sp_goto (mi := 111) (pc := 146) (off := (-28)) (t := 118) (by decide +kernel) (by decide) rfl h
    exact h
set_option maxRecDepth 20000 in
set_option maxHeartbeats 2000000 in
theorem U112_0 {X : pm_X} {k : Nat} {w w' : pm_W} {r : Option Value} {p1 : Int32} {p2 : Int32} {p3 : Int32} (hS : SK w) (h : PS X (k + 1) 112 0 [.ref 42, .int p1, .int p2, .int p3] [] w r w') : aI w 44 p1 ∧ (if p3 ≤ (p1 + 1) then (aI w 44 p2 ∧ (∃ (r1 : Option Value) (w2 : pm_W), PS X k 52 0 [.int (aG w 44 p1), .int (aG w 44 p2)] [] w r1 w2 ∧ (∀ x3 : Int32, r1 = some (.int x3) → SK w2 → (r = some (.int x3) ∧ w' = w2)))) else (aI w 44 (p1 + 1) ∧ (∃ (r4 : Option Value) (w5 : pm_W), PS X k 52 0 [.int (aG w 44 p1), .int (aG w 44 (p1 + 1))] [] w r4 w5 ∧ (∀ x6 : Int32, r4 = some (.int x6) → SK w5 → (r = some (.int x6) ∧ w' = w5))))) := by
  have h := sp_one (i := .aload_n 0) (by decide +kernel) rfl h
  have h := sp_getK (jj := 15) (ci := 1) (n := 1) (b := 44) (by decide +kernel) (by decide +kernel) (by decide +kernel) (by decide +kernel) (by decide) hS h
  have h := sp_onk (i := .iload_n 1) (by decide +kernel) rfl h
  obtain ⟨hi, h⟩ := sp_iald (by decide +kernel) h
  refine ⟨hi, ?_⟩
  have h := sp_onk (i := .aload_n 0) (by decide +kernel) rfl h
  have h := sp_getK (jj := 15) (ci := 1) (n := 1) (b := 44) (by decide +kernel) (by decide +kernel) (by decide +kernel) (by decide +kernel) (by decide) hS h
  have h := sp_onk (i := .iload_n 1) (by decide +kernel) rfl h
  have h := sp_iconst (n := 1) (v := 1) (by decide +kernel) (by decide +kernel) h
  have h := sp_onk (i := .iadd) (by decide +kernel) rfl h
  have h := sp_onk (i := .iload_n 3) (by decide +kernel) rfl h
  rcases sp_icmp_ge (mi := 112) (pc := 14) (off := 9) (t := 23) (by decide +kernel) (by decide) rfl h with ⟨hc, h⟩ | ⟨hc, h⟩
  · refine ite_t hc ?_
    have h := sp_onk (i := .iload_n 2) (by decide +kernel) rfl h
    obtain ⟨hi, h⟩ := sp_iald (by decide +kernel) h
    refine ⟨hi, ?_⟩
    obtain ⟨r1, w2, hc, h⟩ := sp_callS (jj := 35) (mj := 52) (n := 2) (args := [.int (aG w 44 p2), .int (aG w 44 p1)]) (ls' := [.int (aG w 44 p1), .int (aG w 44 p2)]) (by decide +kernel) (by decide +kernel) (by decide +kernel) rfl rfl rfl h
    refine ⟨r1, w2, hc, fun x3 er hSw2 => ?_⟩
    subst er
    have h : PS X k 112 28 [.ref 42, .int p1, .int p2, .int p3] [.int x3] w2 r w' := h
    exact sp_iret (by decide +kernel) h
  · refine ite_f hc ?_
    have h := sp_onk (i := .iload_n 1) (by decide +kernel) rfl h
    have h := sp_iconst (n := 1) (v := 1) (by decide +kernel) (by decide +kernel) h
    have h := sp_onk (i := .iadd) (by decide +kernel) rfl h
    have h := sp_goto (mi := 112) (pc := 20) (off := 4) (t := 24) (by decide +kernel) (by decide) rfl h
    obtain ⟨hi, h⟩ := sp_iald (by decide +kernel) h
    refine ⟨hi, ?_⟩
    obtain ⟨r4, w5, hc, h⟩ := sp_callS (jj := 35) (mj := 52) (n := 2) (args := [.int (aG w 44 (p1 + 1)), .int (aG w 44 p1)]) (ls' := [.int (aG w 44 p1), .int (aG w 44 (p1 + 1))]) (by decide +kernel) (by decide +kernel) (by decide +kernel) rfl rfl rfl h
    refine ⟨r4, w5, hc, fun x6 er hSw5 => ?_⟩
    subst er
    have h : PS X k 112 28 [.ref 42, .int p1, .int p2, .int p3] [.int x6] w5 r w' := h
    exact sp_iret (by decide +kernel) h
set_option maxRecDepth 20000 in
set_option maxHeartbeats 2000000 in
theorem U113_0 {X : pm_X} {k : Nat} {w w' : pm_W} {r : Option Value} {q1 : Nat} (hS : SK w) (h : PS X (k + 1) 113 0 [.ref 42, .ref q1, pm_dead, pm_dead, pm_dead] [] w r w') : PS X k 113 4 [.ref 42, .ref q1, .int 0, .int 0, pm_dead] [] w r w' := by
  have h := sp_iconst1 (n := 0) (v := 0) (by decide +kernel) (by decide +kernel) h
  have h := sp_istore_n (j := 2) (ls' := [.ref 42, .ref q1, .int 0, pm_dead, pm_dead]) (by decide +kernel) (Nat.le_of_ble_eq_true rfl) rfl h
  have h := sp_iconst (n := 0) (v := 0) (by decide +kernel) (by decide +kernel) h
  have h := sp_istore_n (j := 3) (ls' := [.ref 42, .ref q1, .int 0, .int 0, pm_dead]) (by decide +kernel) (Nat.le_of_ble_eq_true rfl) rfl h
  exact h
set_option maxRecDepth 20000 in
set_option maxHeartbeats 2000000 in
theorem U113_4 {X : pm_X} {k : Nat} {w w' : pm_W} {r : Option Value} {o1 : Nat} {i2 : Int32} {i3 : Int32} {u4 : Value} (hS : SK w) (h : PS X (k + 1) 113 4 [.ref 42, .ref o1, .int i2, .int i3, u4] [] w r w') : if 9 ≤ i3 then (r = some (.int i2) ∧ w' = w) else (PS X k 113 13 [.ref 42, .ref o1, .int i2, .int i3, .int 0] [] w r w') := by
  have h := sp_one (i := .iload_n 3) (by decide +kernel) rfl h
  have h := sp_bipush (n := 9) (v := 9) (by decide +kernel) (by decide +kernel) h
  rcases sp_icmp_ge (mi := 113) (pc := 7) (off := 60) (t := 67) (by decide +kernel) (by decide) rfl h with ⟨hc, h⟩ | ⟨hc, h⟩
  · refine ite_t hc ?_
    have h := sp_onk (i := .iload_n 2) (by decide +kernel) rfl h
    exact sp_iret (by decide +kernel) h
  · refine ite_f hc ?_
    have h := sp_iconst (n := 0) (v := 0) (by decide +kernel) (by decide +kernel) h
    have h := sp_istore (j := 4) (ls' := [.ref 42, .ref o1, .int i2, .int i3, .int 0]) (by decide +kernel) (Nat.le_of_ble_eq_true rfl) rfl h
    exact h
set_option maxRecDepth 20000 in
set_option maxHeartbeats 2000000 in
theorem U113_13 {X : pm_X} {k : Nat} {w w' : pm_W} {r : Option Value} {o1 : Nat} {i2 : Int32} {i3 : Int32} {i4 : Int32} (hS : SK w) (h : PS X (k + 1) 113 13 [.ref 42, .ref o1, .int i2, .int i3, .int i4] [] w r w') : if i3 ≤ i4 then (PS X k 113 4 [.ref 42, .ref o1, .int i2, .int (i3 + 1), .int i4] [] w r w') else (∃ (r1 : Option Value) (w2 : pm_W), PS X k 52 0 [.int i3, .int i4] [] w r1 w2 ∧ (∀ x3 : Int32, r1 = some (.int x3) → SK w2 → (aI w2 (gR w o1 3) x3 ∧ (if (aG w2 (gR w o1 3) x3) ≤ 0 then (PS X k 113 13 [.ref 42, .ref o1, .int (i2 + 0), .int i3, .int (i4 + 1)] [] w2 r w') else (∃ (r4 : Option Value) (w5 : pm_W), PS X k 52 0 [.int i4, .int i3] [] w2 r4 w5 ∧ (∀ x6 : Int32, r4 = some (.int x6) → SK w5 → (aI w5 (gR w2 o1 3) x6 ∧ (if (aG w5 (gR w2 o1 3) x6) ≤ 0 then (PS X k 113 13 [.ref 42, .ref o1, .int (i2 + 0), .int i3, .int (i4 + 1)] [] w5 r w') else (PS X k 113 13 [.ref 42, .ref o1, .int (i2 + 1), .int i3, .int (i4 + 1)] [] w5 r w'))))))))) := by
  have h := sp_one (i := .iload 4) (by decide +kernel) rfl h
  have h := sp_onk (i := .iload_n 3) (by decide +kernel) rfl h
  rcases sp_icmp_ge (mi := 113) (pc := 16) (off := 45) (t := 61) (by decide +kernel) (by decide) rfl h with ⟨hc, h⟩ | ⟨hc, h⟩
  · refine ite_t hc ?_
    have h := sp_iinc (j := 3) (n := 1) (v := 1) (ls' := [.ref 42, .ref o1, .int i2, .int (i3 + 1), .int i4]) (by decide +kernel) rfl (by decide +kernel) rfl h
    have h := sp_goto (mi := 113) (pc := 64) (off := (-60)) (t := 4) (by decide +kernel) (by decide) rfl h
    exact h
  · refine ite_f hc ?_
    have h := sp_onk (i := .iload_n 2) (by decide +kernel) rfl h
    have h := sp_onk (i := .aload_n 1) (by decide +kernel) rfl h
    have h := sp_getR (jj := 32) (ci := 7) (n := 3) (by decide +kernel) (by decide +kernel) (by decide +kernel) hS h
    have h := sp_onk (i := .iload_n 3) (by decide +kernel) rfl h
    have h := sp_onk (i := .iload 4) (by decide +kernel) rfl h
    obtain ⟨r1, w2, hc, h⟩ := sp_callS (jj := 35) (mj := 52) (n := 2) (args := [.int i4, .int i3]) (ls' := [.int i3, .int i4]) (by decide +kernel) (by decide +kernel) (by decide +kernel) rfl rfl rfl h
    refine ⟨r1, w2, hc, fun x3 er hSw2 => ?_⟩
    subst er
    have h : PS X k 113 30 [.ref 42, .ref o1, .int i2, .int i3, .int i4] [.int x3, .ref (gR w o1 3), .int i2] w2 r w' := h
    obtain ⟨hi, h⟩ := sp_iald (by decide +kernel) h
    refine ⟨hi, ?_⟩
    rcases sp_if_le (mi := 113) (pc := 31) (off := 21) (t := 52) (by decide +kernel) (by decide) rfl h with ⟨hc, h⟩ | ⟨hc, h⟩
    · refine ite_t hc ?_
      have h := sp_iconst (n := 0) (v := 0) (by decide +kernel) (by decide +kernel) h
      have h := sp_onk (i := .iadd) (by decide +kernel) rfl h
      have h := sp_istore_n (j := 2) (ls' := [.ref 42, .ref o1, .int (i2 + 0), .int i3, .int i4]) (by decide +kernel) (Nat.le_of_ble_eq_true rfl) rfl h
      have h := sp_iinc (j := 4) (n := 1) (v := 1) (ls' := [.ref 42, .ref o1, .int (i2 + 0), .int i3, .int (i4 + 1)]) (by decide +kernel) rfl (by decide +kernel) rfl h
      have h := sp_goto (mi := 113) (pc := 58) (off := (-45)) (t := 13) (by decide +kernel) (by decide) rfl h
      exact h
    · refine ite_f hc ?_
      have h := sp_onk (i := .aload_n 1) (by decide +kernel) rfl h
      have h := sp_getR (jj := 32) (ci := 7) (n := 3) (by decide +kernel) (by decide +kernel) (by decide +kernel) hSw2 h
      have h := sp_onk (i := .iload 4) (by decide +kernel) rfl h
      have h := sp_onk (i := .iload_n 3) (by decide +kernel) rfl h
      obtain ⟨r4, w5, hc, h⟩ := sp_callS (jj := 35) (mj := 52) (n := 2) (args := [.int i3, .int i4]) (ls' := [.int i4, .int i3]) (by decide +kernel) (by decide +kernel) (by decide +kernel) rfl rfl rfl h
      refine ⟨r4, w5, hc, fun x6 er hSw5 => ?_⟩
      subst er
      have h : PS X k 113 44 [.ref 42, .ref o1, .int i2, .int i3, .int i4] [.int x6, .ref (gR w2 o1 3), .int i2] w5 r w' := h
      obtain ⟨hi, h⟩ := sp_iald (by decide +kernel) h
      refine ⟨hi, ?_⟩
      rcases sp_if_le (mi := 113) (pc := 45) (off := 7) (t := 52) (by decide +kernel) (by decide) rfl h with ⟨hc, h⟩ | ⟨hc, h⟩
      · refine ite_t hc ?_
        have h := sp_iconst (n := 0) (v := 0) (by decide +kernel) (by decide +kernel) h
        have h := sp_onk (i := .iadd) (by decide +kernel) rfl h
        have h := sp_istore_n (j := 2) (ls' := [.ref 42, .ref o1, .int (i2 + 0), .int i3, .int i4]) (by decide +kernel) (Nat.le_of_ble_eq_true rfl) rfl h
        have h := sp_iinc (j := 4) (n := 1) (v := 1) (ls' := [.ref 42, .ref o1, .int (i2 + 0), .int i3, .int (i4 + 1)]) (by decide +kernel) rfl (by decide +kernel) rfl h
        have h := sp_goto (mi := 113) (pc := 58) (off := (-45)) (t := 13) (by decide +kernel) (by decide) rfl h
        exact h
      · refine ite_f hc ?_
        have h := sp_iconst (n := 1) (v := 1) (by decide +kernel) (by decide +kernel) h
        have h := sp_goto (mi := 113) (pc := 49) (off := 4) (t := 53) (by decide +kernel) (by decide) rfl h
        have h := sp_onk (i := .iadd) (by decide +kernel) rfl h
        have h := sp_istore_n (j := 2) (ls' := [.ref 42, .ref o1, .int (i2 + 1), .int i3, .int i4]) (by decide +kernel) (Nat.le_of_ble_eq_true rfl) rfl h
        have h := sp_iinc (j := 4) (n := 1) (v := 1) (ls' := [.ref 42, .ref o1, .int (i2 + 1), .int i3, .int (i4 + 1)]) (by decide +kernel) rfl (by decide +kernel) rfl h
        have h := sp_goto (mi := 113) (pc := 58) (off := (-45)) (t := 13) (by decide +kernel) (by decide) rfl h
        exact h
set_option maxRecDepth 20000 in
set_option maxHeartbeats 2000000 in
theorem U114_0 {X : pm_X} {k : Nat} {w w' : pm_W} {r : Option Value} {q1 : Nat} (hS : SK w) (h : PS X (k + 1) 114 0 [.ref 42, .ref q1, pm_dead, pm_dead] [] w r w') : PS X k 114 4 [.ref 42, .ref q1, .int 0, .int 0] [] w r w' := by
  have h := sp_iconst1 (n := 0) (v := 0) (by decide +kernel) (by decide +kernel) h
  have h := sp_istore_n (j := 2) (ls' := [.ref 42, .ref q1, .int 0, pm_dead]) (by decide +kernel) (Nat.le_of_ble_eq_true rfl) rfl h
  have h := sp_iconst (n := 0) (v := 0) (by decide +kernel) (by decide +kernel) h
  have h := sp_istore_n (j := 3) (ls' := [.ref 42, .ref q1, .int 0, .int 0]) (by decide +kernel) (Nat.le_of_ble_eq_true rfl) rfl h
  exact h
set_option maxRecDepth 20000 in
set_option maxHeartbeats 2000000 in
theorem U114_4 {X : pm_X} {k : Nat} {w w' : pm_W} {r : Option Value} {o1 : Nat} {i2 : Int32} {i3 : Int32} (hS : SK w) (h : PS X (k + 1) 114 4 [.ref 42, .ref o1, .int i2, .int i3] [] w r w') : if (gI w (gR w o1 0) 0) ≤ i3 then (r = some (.int i2) ∧ w' = w) else (∃ (r1 : Option Value) (w2 : pm_W), PS X k 115 0 [.ref 42, .ref o1, .int i3, pm_dead, pm_dead, pm_dead] [] w r1 w2 ∧ (∀ x3 : Int32, r1 = some (.int x3) → SK w2 → (if x3 = 0 then (PS X k 114 4 [.ref 42, .ref o1, .int (i2 ||| (1 <<< (i3 &&& 31))), .int (i3 + 1)] [] w2 r w') else (PS X k 114 4 [.ref 42, .ref o1, .int (i2 ||| 0), .int (i3 + 1)] [] w2 r w')))) := by
  have h := sp_one (i := .iload_n 3) (by decide +kernel) rfl h
  have h := sp_onk (i := .aload_n 1) (by decide +kernel) rfl h
  have h := sp_getR (jj := 44) (ci := 7) (n := 0) (by decide +kernel) (by decide +kernel) (by decide +kernel) hS h
  have h := sp_getI (jj := 48) (ci := 9) (n := 0) (by decide +kernel) (by decide +kernel) (by decide +kernel) hS h
  rcases sp_icmp_ge (mi := 114) (pc := 12) (off := 28) (t := 40) (by decide +kernel) (by decide) rfl h with ⟨hc, h⟩ | ⟨hc, h⟩
  · refine ite_t hc ?_
    have h := sp_onk (i := .iload_n 2) (by decide +kernel) rfl h
    exact sp_iret (by decide +kernel) h
  · refine ite_f hc ?_
    have h := sp_onk (i := .iload_n 2) (by decide +kernel) rfl h
    have h := sp_onk (i := .aload_n 0) (by decide +kernel) rfl h
    have h := sp_onk (i := .aload_n 1) (by decide +kernel) rfl h
    have h := sp_onk (i := .iload_n 3) (by decide +kernel) rfl h
    obtain ⟨r1, w2, hc, h⟩ := sp_callV (jj := 54) (mj := 115) (n := 2) (v := .ref 42) (args := [.int i3, .ref o1]) (ls' := [.ref 42, .ref o1, .int i3, pm_dead, pm_dead, pm_dead]) (by decide +kernel) (by decide +kernel) rfl rfl rfl h
    refine ⟨r1, w2, hc, fun x3 er hSw2 => ?_⟩
    subst er
    have h : PS X k 114 22 [.ref 42, .ref o1, .int i2, .int i3] [.int x3, .int i2] w2 r w' := h
    rcases sp_if_ne (mi := 114) (pc := 22) (off := 9) (t := 31) (by decide +kernel) (by decide) rfl h with ⟨hc, h⟩ | ⟨hc, h⟩
    · refine ite_f hc ?_
      have h := sp_iconst (n := 0) (v := 0) (by decide +kernel) (by decide +kernel) h
      have h := sp_onk (i := .ior) (by decide +kernel) rfl h
      have h := sp_istore_n (j := 2) (ls' := [.ref 42, .ref o1, .int (i2 ||| 0), .int i3]) (by decide +kernel) (Nat.le_of_ble_eq_true rfl) rfl h
      have h := sp_iinc (j := 3) (n := 1) (v := 1) (ls' := [.ref 42, .ref o1, .int (i2 ||| 0), .int (i3 + 1)]) (by decide +kernel) rfl (by decide +kernel) rfl h
      have h := sp_goto (mi := 114) (pc := 37) (off := (-33)) (t := 4) (by decide +kernel) (by decide) rfl h
      exact h
    · refine ite_t (Classical.not_not.mp hc) ?_
      have h := sp_iconst (n := 1) (v := 1) (by decide +kernel) (by decide +kernel) h
      have h := sp_onk (i := .iload_n 3) (by decide +kernel) rfl h
      have h := sp_onk (i := .ishl) (by decide +kernel) rfl h
      have h := sp_goto (mi := 114) (pc := 28) (off := 4) (t := 32) (by decide +kernel) (by decide) rfl h
      have h := sp_onk (i := .ior) (by decide +kernel) rfl h
      have h := sp_istore_n (j := 2) (ls' := [.ref 42, .ref o1, .int (i2 ||| (1 <<< (i3 &&& 31))), .int i3]) (by decide +kernel) (Nat.le_of_ble_eq_true rfl) rfl h
      have h := sp_iinc (j := 3) (n := 1) (v := 1) (ls' := [.ref 42, .ref o1, .int (i2 ||| (1 <<< (i3 &&& 31))), .int (i3 + 1)]) (by decide +kernel) rfl (by decide +kernel) rfl h
      have h := sp_goto (mi := 114) (pc := 37) (off := (-33)) (t := 4) (by decide +kernel) (by decide) rfl h
      exact h
set_option maxRecDepth 20000 in
set_option maxHeartbeats 2000000 in
theorem U115_0 {X : pm_X} {k : Nat} {w w' : pm_W} {r : Option Value} {q1 : Nat} {p2 : Int32} (hS : SK w) (h : PS X (k + 1) 115 0 [.ref 42, .ref q1, .int p2, pm_dead, pm_dead, pm_dead] [] w r w') : PS X k 115 5 [.ref 42, .ref q1, .int p2, .int 0, .int 0, pm_dead] [] w r w' := by
  have h := sp_iconst1 (n := 0) (v := 0) (by decide +kernel) (by decide +kernel) h
  have h := sp_istore_n (j := 3) (ls' := [.ref 42, .ref q1, .int p2, .int 0, pm_dead, pm_dead]) (by decide +kernel) (Nat.le_of_ble_eq_true rfl) rfl h
  have h := sp_iconst (n := 0) (v := 0) (by decide +kernel) (by decide +kernel) h
  have h := sp_istore (j := 4) (ls' := [.ref 42, .ref q1, .int p2, .int 0, .int 0, pm_dead]) (by decide +kernel) (Nat.le_of_ble_eq_true rfl) rfl h
  exact h
set_option maxRecDepth 20000 in
set_option maxHeartbeats 2000000 in
theorem U115_5 {X : pm_X} {k : Nat} {w w' : pm_W} {r : Option Value} {o1 : Nat} {i2 : Int32} {i3 : Int32} {i4 : Int32} {u5 : Value} (hS : SK w) (h : PS X (k + 1) 115 5 [.ref 42, .ref o1, .int i2, .int i3, .int i4, u5] [] w r w') : if (gI w (gR w o1 0) 0) ≤ i4 then (r = some (.int i3) ∧ w' = w) else (∃ (r1 : Option Value) (w2 : pm_W), PS X k 52 0 [.int i2, .int i4] [] w r1 w2 ∧ (∀ x3 : Int32, r1 = some (.int x3) → SK w2 → (aI w2 (gR w o1 3) x3 ∧ (∃ (r4 : Option Value) (w5 : pm_W), PS X k 52 0 [.int i4, .int i2] [] w2 r4 w5 ∧ (∀ x6 : Int32, r4 = some (.int x6) → SK w5 → (aI w5 (gR w2 o1 3) x6 ∧ (if ((aG w2 (gR w o1 3) x3) + (aG w5 (gR w2 o1 3) x6)) ≤ 0 then (PS X k 115 5 [.ref 42, .ref o1, .int i2, .int (i3 ||| 0), .int (i4 + 1), .int ((aG w2 (gR w o1 3) x3) + (aG w5 (gR w2 o1 3) x6))] [] w5 r w') else (PS X k 115 5 [.ref 42, .ref o1, .int i2, .int (i3 ||| (1 <<< (i4 &&& 31))), .int (i4 + 1), .int ((aG w2 (gR w o1 3) x3) + (aG w5 (gR w2 o1 3) x6))] [] w5 r w')))))))) := by
  have h := sp_one (i := .iload 4) (by decide +kernel) rfl h
  have h := sp_onk (i := .aload_n 1) (by decide +kernel) rfl h
  have h := sp_getR (jj := 44) (ci := 7) (n := 0) (by decide +kernel) (by decide +kernel) (by decide +kernel) hS h
  have h := sp_getI (jj := 48) (ci := 9) (n := 0) (by decide +kernel) (by decide +kernel) (by decide +kernel) hS h
  rcases sp_icmp_ge (mi := 115) (pc := 14) (off := 50) (t := 64) (by decide +kernel) (by decide) rfl h with ⟨hc, h⟩ | ⟨hc, h⟩
  · refine ite_t hc ?_
    have h := sp_onk (i := .iload_n 3) (by decide +kernel) rfl h
    exact sp_iret (by decide +kernel) h
  · refine ite_f hc ?_
    have h := sp_onk (i := .aload_n 1) (by decide +kernel) rfl h
    have h := sp_getR (jj := 32) (ci := 7) (n := 3) (by decide +kernel) (by decide +kernel) (by decide +kernel) hS h
    have h := sp_onk (i := .iload_n 2) (by decide +kernel) rfl h
    have h := sp_onk (i := .iload 4) (by decide +kernel) rfl h
    obtain ⟨r1, w2, hc, h⟩ := sp_callS (jj := 35) (mj := 52) (n := 2) (args := [.int i4, .int i2]) (ls' := [.int i2, .int i4]) (by decide +kernel) (by decide +kernel) (by decide +kernel) rfl rfl rfl h
    refine ⟨r1, w2, hc, fun x3 er hSw2 => ?_⟩
    subst er
    have h : PS X k 115 27 [.ref 42, .ref o1, .int i2, .int i3, .int i4, u5] [.int x3, .ref (gR w o1 3)] w2 r w' := h
    obtain ⟨hi, h⟩ := sp_iald (by decide +kernel) h
    refine ⟨hi, ?_⟩
    have h := sp_onk (i := .aload_n 1) (by decide +kernel) rfl h
    have h := sp_getR (jj := 32) (ci := 7) (n := 3) (by decide +kernel) (by decide +kernel) (by decide +kernel) hSw2 h
    have h := sp_onk (i := .iload 4) (by decide +kernel) rfl h
    have h := sp_onk (i := .iload_n 2) (by decide +kernel) rfl h
    obtain ⟨r4, w5, hc, h⟩ := sp_callS (jj := 35) (mj := 52) (n := 2) (args := [.int i2, .int i4]) (ls' := [.int i4, .int i2]) (by decide +kernel) (by decide +kernel) (by decide +kernel) rfl rfl rfl h
    refine ⟨r4, w5, hc, fun x6 er hSw5 => ?_⟩
    subst er
    have h : PS X k 115 38 [.ref 42, .ref o1, .int i2, .int i3, .int i4, u5] [.int x6, .ref (gR w2 o1 3), .int (aG w2 (gR w o1 3) x3)] w5 r w' := h
    obtain ⟨hi, h⟩ := sp_iald (by decide +kernel) h
    refine ⟨hi, ?_⟩
    have h := sp_onk (i := .iadd) (by decide +kernel) rfl h
    have h := sp_istore (j := 5) (ls' := [.ref 42, .ref o1, .int i2, .int i3, .int i4, .int ((aG w2 (gR w o1 3) x3) + (aG w5 (gR w2 o1 3) x6))]) (by decide +kernel) (Nat.le_of_ble_eq_true rfl) rfl h
    have h := sp_onk (i := .iload_n 3) (by decide +kernel) rfl h
    have h := sp_onk (i := .iload 5) (by decide +kernel) rfl h
    rcases sp_if_le (mi := 115) (pc := 45) (off := 10) (t := 55) (by decide +kernel) (by decide) rfl h with ⟨hc, h⟩ | ⟨hc, h⟩
    · refine ite_t hc ?_
      have h := sp_iconst (n := 0) (v := 0) (by decide +kernel) (by decide +kernel) h
      have h := sp_onk (i := .ior) (by decide +kernel) rfl h
      have h := sp_istore_n (j := 3) (ls' := [.ref 42, .ref o1, .int i2, .int (i3 ||| 0), .int i4, .int ((aG w2 (gR w o1 3) x3) + (aG w5 (gR w2 o1 3) x6))]) (by decide +kernel) (Nat.le_of_ble_eq_true rfl) rfl h
      have h := sp_iinc (j := 4) (n := 1) (v := 1) (ls' := [.ref 42, .ref o1, .int i2, .int (i3 ||| 0), .int (i4 + 1), .int ((aG w2 (gR w o1 3) x3) + (aG w5 (gR w2 o1 3) x6))]) (by decide +kernel) rfl (by decide +kernel) rfl h
      have h := sp_goto (mi := 115) (pc := 61) (off := (-56)) (t := 5) (by decide +kernel) (by decide) rfl h
      exact h
    · refine ite_f hc ?_
      have h := sp_iconst (n := 1) (v := 1) (by decide +kernel) (by decide +kernel) h
      have h := sp_onk (i := .iload 4) (by decide +kernel) rfl h
      have h := sp_onk (i := .ishl) (by decide +kernel) rfl h
      have h := sp_goto (mi := 115) (pc := 52) (off := 4) (t := 56) (by decide +kernel) (by decide) rfl h
      have h := sp_onk (i := .ior) (by decide +kernel) rfl h
      have h := sp_istore_n (j := 3) (ls' := [.ref 42, .ref o1, .int i2, .int (i3 ||| (1 <<< (i4 &&& 31))), .int i4, .int ((aG w2 (gR w o1 3) x3) + (aG w5 (gR w2 o1 3) x6))]) (by decide +kernel) (Nat.le_of_ble_eq_true rfl) rfl h
      have h := sp_iinc (j := 4) (n := 1) (v := 1) (ls' := [.ref 42, .ref o1, .int i2, .int (i3 ||| (1 <<< (i4 &&& 31))), .int (i4 + 1), .int ((aG w2 (gR w o1 3) x3) + (aG w5 (gR w2 o1 3) x6))]) (by decide +kernel) rfl (by decide +kernel) rfl h
      have h := sp_goto (mi := 115) (pc := 61) (off := (-56)) (t := 5) (by decide +kernel) (by decide) rfl h
      exact h
set_option maxRecDepth 20000 in
set_option maxHeartbeats 2000000 in
theorem U116_0 {X : pm_X} {k : Nat} {w w' : pm_W} {r : Option Value} {q1 : Nat} (hS : SK w) (h : PS X (k + 1) 116 0 [.ref 42, .ref q1, pm_dead, pm_dead, pm_dead] [] w r w') : ∃ (r1 : Option Value) (w2 : pm_W), PS X k 114 0 [.ref 42, .ref q1, pm_dead, pm_dead] [] w r1 w2 ∧ (∀ x3 : Int32, r1 = some (.int x3) → SK w2 → (PS X k 116 11 [.ref 42, .ref q1, .int x3, .int 0, .int 0] [] w2 r w')) := by
  have h := sp_one (i := .aload_n 0) (by decide +kernel) rfl h
  have h := sp_onk (i := .aload_n 1) (by decide +kernel) rfl h
  obtain ⟨r1, w2, hc, h⟩ := sp_callV (jj := 58) (mj := 114) (n := 1) (v := .ref 42) (args := [.ref q1]) (ls' := [.ref 42, .ref q1, pm_dead, pm_dead]) (by decide +kernel) (by decide +kernel) rfl rfl rfl h
  refine ⟨r1, w2, hc, fun x3 er hSw2 => ?_⟩
  subst er
  have h : PS X k 116 5 [.ref 42, .ref q1, pm_dead, pm_dead, pm_dead] [.int x3] w2 r w' := h
  have h := sp_istore_n (j := 2) (ls' := [.ref 42, .ref q1, .int x3, pm_dead, pm_dead]) (by decide +kernel) (Nat.le_of_ble_eq_true rfl) rfl h
  have h := sp_iconst (n := 0) (v := 0) (by decide +kernel) (by decide +kernel) h
  have h := sp_istore_n (j := 3) (ls' := [.ref 42, .ref q1, .int x3, .int 0, pm_dead]) (by decide +kernel) (Nat.le_of_ble_eq_true rfl) rfl h
  have h := sp_iconst (n := 0) (v := 0) (by decide +kernel) (by decide +kernel) h
  have h := sp_istore (j := 4) (ls' := [.ref 42, .ref q1, .int x3, .int 0, .int 0]) (by decide +kernel) (Nat.le_of_ble_eq_true rfl) rfl h
  exact h
set_option maxRecDepth 20000 in
set_option maxHeartbeats 2000000 in
theorem U116_11 {X : pm_X} {k : Nat} {w w' : pm_W} {r : Option Value} {o1 : Nat} {i2 : Int32} {i3 : Int32} {i4 : Int32} (hS : SK w) (h : PS X (k + 1) 116 11 [.ref 42, .ref o1, .int i2, .int i3, .int i4] [] w r w') : if (gI w (gR w o1 0) 0) ≤ i4 then (r = some (.int i3) ∧ w' = w) else (∃ (r1 : Option Value) (w2 : pm_W), PS X k 89 0 [.int i2, .int i4] [] w r1 w2 ∧ (∀ x3 : Int32, r1 = some (.int x3) → SK w2 → (if x3 = 0 then (∃ (r4 : Option Value) (w5 : pm_W), PS X k 117 0 [.ref 42, .ref o1, .int i4, pm_dead, pm_dead, pm_dead, pm_dead] [] w2 r4 w5 ∧ (∀ x6 : Int32, r4 = some (.int x6) → SK w5 → (PS X k 116 11 [.ref 42, .ref o1, .int (i2 ||| x6), .int (i3 + 1), .int (i4 + 1)] [] w5 r w'))) else (PS X k 116 11 [.ref 42, .ref o1, .int i2, .int i3, .int (i4 + 1)] [] w2 r w')))) := by
  have h := sp_one (i := .iload 4) (by decide +kernel) rfl h
  have h := sp_onk (i := .aload_n 1) (by decide +kernel) rfl h
  have h := sp_getR (jj := 44) (ci := 7) (n := 0) (by decide +kernel) (by decide +kernel) (by decide +kernel) hS h
  have h := sp_getI (jj := 48) (ci := 9) (n := 0) (by decide +kernel) (by decide +kernel) (by decide +kernel) hS h
  rcases sp_icmp_ge (mi := 116) (pc := 20) (off := 31) (t := 51) (by decide +kernel) (by decide) rfl h with ⟨hc, h⟩ | ⟨hc, h⟩
  · refine ite_t hc ?_
    have h := sp_onk (i := .iload_n 3) (by decide +kernel) rfl h
    exact sp_iret (by decide +kernel) h
  · refine ite_f hc ?_
    have h := sp_onk (i := .iload_n 2) (by decide +kernel) rfl h
    have h := sp_onk (i := .iload 4) (by decide +kernel) rfl h
    obtain ⟨r1, w2, hc, h⟩ := sp_callS (jj := 62) (mj := 89) (n := 2) (args := [.int i4, .int i2]) (ls' := [.int i2, .int i4]) (by decide +kernel) (by decide +kernel) (by decide +kernel) rfl rfl rfl h
    refine ⟨r1, w2, hc, fun x3 er hSw2 => ?_⟩
    subst er
    have h : PS X k 116 29 [.ref 42, .ref o1, .int i2, .int i3, .int i4] [.int x3] w2 r w' := h
    rcases sp_if_ne (mi := 116) (pc := 29) (off := 16) (t := 45) (by decide +kernel) (by decide) rfl h with ⟨hc, h⟩ | ⟨hc, h⟩
    · refine ite_f hc ?_
      have h := sp_iinc (j := 4) (n := 1) (v := 1) (ls' := [.ref 42, .ref o1, .int i2, .int i3, .int (i4 + 1)]) (by decide +kernel) rfl (by decide +kernel) rfl h
      have h := sp_goto (mi := 116) (pc := 48) (off := (-37)) (t := 11) (by decide +kernel) (by decide) rfl h
      exact h
    · refine ite_t (Classical.not_not.mp hc) ?_
      have h := sp_onk (i := .iload_n 2) (by decide +kernel) rfl h
      have h := sp_onk (i := .aload_n 0) (by decide +kernel) rfl h
      have h := sp_onk (i := .aload_n 1) (by decide +kernel) rfl h
      have h := sp_onk (i := .iload 4) (by decide +kernel) rfl h
      obtain ⟨r4, w5, hc, h⟩ := sp_callV (jj := 66) (mj := 117) (n := 2) (v := .ref 42) (args := [.int i4, .ref o1]) (ls' := [.ref 42, .ref o1, .int i4, pm_dead, pm_dead, pm_dead, pm_dead]) (by decide +kernel) (by decide +kernel) rfl rfl rfl h
      refine ⟨r4, w5, hc, fun x6 er hSw5 => ?_⟩
      subst er
      have h : PS X k 116 40 [.ref 42, .ref o1, .int i2, .int i3, .int i4] [.int x6, .int i2] w5 r w' := h
      have h := sp_onk (i := .ior) (by decide +kernel) rfl h
      have h := sp_istore_n (j := 2) (ls' := [.ref 42, .ref o1, .int (i2 ||| x6), .int i3, .int i4]) (by decide +kernel) (Nat.le_of_ble_eq_true rfl) rfl h
      have h := sp_iinc (j := 3) (n := 1) (v := 1) (ls' := [.ref 42, .ref o1, .int (i2 ||| x6), .int (i3 + 1), .int i4]) (by decide +kernel) rfl (by decide +kernel) rfl h
      have h := sp_iinc (j := 4) (n := 1) (v := 1) (ls' := [.ref 42, .ref o1, .int (i2 ||| x6), .int (i3 + 1), .int (i4 + 1)]) (by decide +kernel) rfl (by decide +kernel) rfl h
      have h := sp_goto (mi := 116) (pc := 48) (off := (-37)) (t := 11) (by decide +kernel) (by decide) rfl h
      exact h
set_option maxRecDepth 20000 in
set_option maxHeartbeats 2000000 in
theorem U117_0 {X : pm_X} {k : Nat} {w w' : pm_W} {r : Option Value} {q1 : Nat} {p2 : Int32} (hS : SK w) (h : PS X (k + 1) 117 0 [.ref 42, .ref q1, .int p2, pm_dead, pm_dead, pm_dead, pm_dead] [] w r w') : PS X k 117 7 [.ref 42, .ref q1, .int p2, .int (1 <<< (p2 &&& 31)), .int 0, pm_dead, pm_dead] [] w r w' := by
  have h := sp_iconst1 (n := 1) (v := 1) (by decide +kernel) (by decide +kernel) h
  have h := sp_onk (i := .iload_n 2) (by decide +kernel) rfl h
  have h := sp_onk (i := .ishl) (by decide +kernel) rfl h
  have h := sp_istore_n (j := 3) (ls' := [.ref 42, .ref q1, .int p2, .int (1 <<< (p2 &&& 31)), pm_dead, pm_dead, pm_dead]) (by decide +kernel) (Nat.le_of_ble_eq_true rfl) rfl h
  have h := sp_iconst (n := 0) (v := 0) (by decide +kernel) (by decide +kernel) h
  have h := sp_istore (j := 4) (ls' := [.ref 42, .ref q1, .int p2, .int (1 <<< (p2 &&& 31)), .int 0, pm_dead, pm_dead]) (by decide +kernel) (Nat.le_of_ble_eq_true rfl) rfl h
  exact h
set_option maxRecDepth 20000 in
set_option maxHeartbeats 2000000 in
theorem U117_7 {X : pm_X} {k : Nat} {w w' : pm_W} {r : Option Value} {o1 : Nat} {i2 : Int32} {i3 : Int32} {i4 : Int32} {u5 : Value} {u6 : Value} (hS : SK w) (h : PS X (k + 1) 117 7 [.ref 42, .ref o1, .int i2, .int i3, .int i4, u5, u6] [] w r w') : if (gI w (gR w o1 0) 0) ≤ i4 then (r = some (.int i3) ∧ w' = w) else (PS X k 117 25 [.ref 42, .ref o1, .int i2, .int i3, .int i4, .int i3, .int 0] [] w r w') := by
  have h := sp_one (i := .iload 4) (by decide +kernel) rfl h
  have h := sp_onk (i := .aload_n 1) (by decide +kernel) rfl h
  have h := sp_getR (jj := 44) (ci := 7) (n := 0) (by decide +kernel) (by decide +kernel) (by decide +kernel) hS h
  have h := sp_getI (jj := 48) (ci := 9) (n := 0) (by decide +kernel) (by decide +kernel) (by decide +kernel) hS h
  rcases sp_icmp_ge (mi := 117) (pc := 16) (off := 61) (t := 77) (by decide +kernel) (by decide) rfl h with ⟨hc, h⟩ | ⟨hc, h⟩
  · refine ite_t hc ?_
    have h := sp_onk (i := .iload_n 3) (by decide +kernel) rfl h
    exact sp_iret (by decide +kernel) h
  · refine ite_f hc ?_
    have h := sp_onk (i := .iload_n 3) (by decide +kernel) rfl h
    have h := sp_istore (j := 5) (ls' := [.ref 42, .ref o1, .int i2, .int i3, .int i4, .int i3, u6]) (by decide +kernel) (Nat.le_of_ble_eq_true rfl) rfl h
    have h := sp_iconst (n := 0) (v := 0) (by decide +kernel) (by decide +kernel) h
    have h := sp_istore (j := 6) (ls' := [.ref 42, .ref o1, .int i2, .int i3, .int i4, .int i3, .int 0]) (by decide +kernel) (Nat.le_of_ble_eq_true rfl) rfl h
    exact h
set_option maxRecDepth 20000 in
set_option maxHeartbeats 2000000 in
theorem U117_25 {X : pm_X} {k : Nat} {w w' : pm_W} {r : Option Value} {o1 : Nat} {i2 : Int32} {i3 : Int32} {i4 : Int32} {i5 : Int32} {i6 : Int32} (hS : SK w) (h : PS X (k + 1) 117 25 [.ref 42, .ref o1, .int i2, .int i3, .int i4, .int i5, .int i6] [] w r w') : if (gI w (gR w o1 0) 0) ≤ i6 then (PS X k 117 7 [.ref 42, .ref o1, .int i2, .int i5, .int (i4 + 1), .int i5, .int i6] [] w r w') else (∃ (r1 : Option Value) (w2 : pm_W), PS X k 89 0 [.int i3, .int i6] [] w r1 w2 ∧ (∀ x3 : Int32, r1 = some (.int x3) → SK w2 → (if x3 = 0 then (PS X k 117 25 [.ref 42, .ref o1, .int i2, .int i3, .int i4, .int (i5 ||| 0), .int (i6 + 1)] [] w2 r w') else (∃ (r4 : Option Value) (w5 : pm_W), PS X k 115 0 [.ref 42, .ref o1, .int i6, pm_dead, pm_dead, pm_dead] [] w2 r4 w5 ∧ (∀ x6 : Int32, r4 = some (.int x6) → SK w5 → (PS X k 117 25 [.ref 42, .ref o1, .int i2, .int i3, .int i4, .int (i5 ||| x6), .int (i6 + 1)] [] w5 r w')))))) := by
  have h := sp_one (i := .iload 6) (by decide +kernel) rfl h
  have h := sp_onk (i := .aload_n 1) (by decide +kernel) rfl h
  have h := sp_getR (jj := 44) (ci := 7) (n := 0) (by decide +kernel) (by decide +kernel) (by decide +kernel) hS h
  have h := sp_getI (jj := 48) (ci := 9) (n := 0) (by decide +kernel) (by decide +kernel) (by decide +kernel) hS h
  rcases sp_icmp_ge (mi := 117) (pc := 34) (off := 34) (t := 68) (by decide +kernel) (by decide) rfl h with ⟨hc, h⟩ | ⟨hc, h⟩
  · refine ite_t hc ?_
    have h := sp_onk (i := .iload 5) (by decide +kernel) rfl h
    have h := sp_istore_n (j := 3) (ls' := [.ref 42, .ref o1, .int i2, .int i5, .int i4, .int i5, .int i6]) (by decide +kernel) (Nat.le_of_ble_eq_true rfl) rfl h
    have h := sp_iinc (j := 4) (n := 1) (v := 1) (ls' := [.ref 42, .ref o1, .int i2, .int i5, .int (i4 + 1), .int i5, .int i6]) (by decide +kernel) rfl (by decide +kernel) rfl h
    have h := sp_goto (mi := 117) (pc := 74) (off := (-67)) (t := 7) (by decide +kernel) (by decide) rfl h
    exact h
  · refine ite_f hc ?_
    have h := sp_onk (i := .iload 5) (by decide +kernel) rfl h
    have h := sp_onk (i := .iload_n 3) (by decide +kernel) rfl h
    have h := sp_onk (i := .iload 6) (by decide +kernel) rfl h
    obtain ⟨r1, w2, hc, h⟩ := sp_callS (jj := 62) (mj := 89) (n := 2) (args := [.int i6, .int i3]) (ls' := [.int i3, .int i6]) (by decide +kernel) (by decide +kernel) (by decide +kernel) rfl rfl rfl h
    refine ⟨r1, w2, hc, fun x3 er hSw2 => ?_⟩
    subst er
    have h : PS X k 117 45 [.ref 42, .ref o1, .int i2, .int i3, .int i4, .int i5, .int i6] [.int x3, .int i5] w2 r w' := h
    rcases sp_if_eq (mi := 117) (pc := 45) (off := 13) (t := 58) (by decide +kernel) (by decide) rfl h with ⟨hc, h⟩ | ⟨hc, h⟩
    · refine ite_t hc ?_
      have h := sp_iconst (n := 0) (v := 0) (by decide +kernel) (by decide +kernel) h
      have h := sp_onk (i := .ior) (by decide +kernel) rfl h
      have h := sp_istore (j := 5) (ls' := [.ref 42, .ref o1, .int i2, .int i3, .int i4, .int (i5 ||| 0), .int i6]) (by decide +kernel) (Nat.le_of_ble_eq_true rfl) rfl h
      have h := sp_iinc (j := 6) (n := 1) (v := 1) (ls' := [.ref 42, .ref o1, .int i2, .int i3, .int i4, .int (i5 ||| 0), .int (i6 + 1)]) (by decide +kernel) rfl (by decide +kernel) rfl h
      have h := sp_goto (mi := 117) (pc := 65) (off := (-40)) (t := 25) (by decide +kernel) (by decide) rfl h
      exact h
    · refine ite_f hc ?_
      have h := sp_onk (i := .aload_n 0) (by decide +kernel) rfl h
      have h := sp_onk (i := .aload_n 1) (by decide +kernel) rfl h
      have h := sp_onk (i := .iload 6) (by decide +kernel) rfl h
      obtain ⟨r4, w5, hc, h⟩ := sp_callV (jj := 54) (mj := 115) (n := 2) (v := .ref 42) (args := [.int i6, .ref o1]) (ls' := [.ref 42, .ref o1, .int i6, pm_dead, pm_dead, pm_dead]) (by decide +kernel) (by decide +kernel) rfl rfl rfl h
      refine ⟨r4, w5, hc, fun x6 er hSw5 => ?_⟩
      subst er
      have h : PS X k 117 55 [.ref 42, .ref o1, .int i2, .int i3, .int i4, .int i5, .int i6] [.int x6, .int i5] w5 r w' := h
      have h := sp_goto (mi := 117) (pc := 55) (off := 4) (t := 59) (by decide +kernel) (by decide) rfl h
      have h := sp_onk (i := .ior) (by decide +kernel) rfl h
      have h := sp_istore (j := 5) (ls' := [.ref 42, .ref o1, .int i2, .int i3, .int i4, .int (i5 ||| x6), .int i6]) (by decide +kernel) (Nat.le_of_ble_eq_true rfl) rfl h
      have h := sp_iinc (j := 6) (n := 1) (v := 1) (ls' := [.ref 42, .ref o1, .int i2, .int i3, .int i4, .int (i5 ||| x6), .int (i6 + 1)]) (by decide +kernel) rfl (by decide +kernel) rfl h
      have h := sp_goto (mi := 117) (pc := 65) (off := (-40)) (t := 25) (by decide +kernel) (by decide) rfl h
      exact h
set_option maxRecDepth 20000 in
set_option maxHeartbeats 2000000 in
theorem U118_0 {X : pm_X} {k : Nat} {w w' : pm_W} {r : Option Value} {q1 : Nat} (hS : SK w) (h : PS X (k + 1) 118 0 [.ref 42, .ref q1, pm_dead, pm_dead, pm_dead, pm_dead] [] w r w') : PS X k 118 7 [.ref 42, .ref q1, .int 0, .int 0, .int 0, pm_dead] [] w r w' := by
  have h := sp_iconst1 (n := 0) (v := 0) (by decide +kernel) (by decide +kernel) h
  have h := sp_istore_n (j := 2) (ls' := [.ref 42, .ref q1, .int 0, pm_dead, pm_dead, pm_dead]) (by decide +kernel) (Nat.le_of_ble_eq_true rfl) rfl h
  have h := sp_iconst (n := 0) (v := 0) (by decide +kernel) (by decide +kernel) h
  have h := sp_istore_n (j := 3) (ls' := [.ref 42, .ref q1, .int 0, .int 0, pm_dead, pm_dead]) (by decide +kernel) (Nat.le_of_ble_eq_true rfl) rfl h
  have h := sp_iconst (n := 0) (v := 0) (by decide +kernel) (by decide +kernel) h
  have h := sp_istore (j := 4) (ls' := [.ref 42, .ref q1, .int 0, .int 0, .int 0, pm_dead]) (by decide +kernel) (Nat.le_of_ble_eq_true rfl) rfl h
  exact h
set_option maxRecDepth 20000 in
set_option maxHeartbeats 2000000 in
theorem U118_7 {X : pm_X} {k : Nat} {w w' : pm_W} {r : Option Value} {o1 : Nat} {i2 : Int32} {i3 : Int32} {i4 : Int32} {u5 : Value} (hS : SK w) (h : PS X (k + 1) 118 7 [.ref 42, .ref o1, .int i2, .int i3, .int i4, u5] [] w r w') : if (gI w (gR w o1 0) 0) ≤ i4 then (r = some (.int i2) ∧ w' = w) else (∃ (r1 : Option Value) (w2 : pm_W), PS X k 119 0 [.ref 46, .ref o1] [] w r1 w2 ∧ (r1 = none → SK w2 → (∃ (r3 : Option Value) (w4 : pm_W), PS X k 86 0 [.ref 46, .int i4, pm_dead] [] w2 r3 w4 ∧ (∀ x5 : Int32, r3 = some (.int x5) → SK w4 → (∃ (r6 : Option Value) (w7 : pm_W), PS X k 105 0 [.ref 46, pm_dead, pm_dead] [] w4 r6 w7 ∧ (∀ x8 : Int32, r6 = some (.int x8) → SK w7 → (if i4 = 0 then (PS X k 118 7 [.ref 42, .ref o1, .int i4, .int x8, .int (i4 + 1), .int x8] [] w7 r w') else (if i3 ≤ x8 then (PS X k 118 7 [.ref 42, .ref o1, .int i2, .int i3, .int (i4 + 1), .int x8] [] w7 r w') else (PS X k 118 7 [.ref 42, .ref o1, .int i4, .int x8, .int (i4 + 1), .int x8] [] w7 r w'))))))))) := by
  have h := sp_one (i := .iload 4) (by decide +kernel) rfl h
  have h := sp_onk (i := .aload_n 1) (by decide +kernel) rfl h
  have h := sp_getR (jj := 44) (ci := 7) (n := 0) (by decide +kernel) (by decide +kernel) (by decide +kernel) hS h
  have h := sp_getI (jj := 48) (ci := 9) (n := 0) (by decide +kernel) (by decide +kernel) (by decide +kernel) hS h
  rcases sp_icmp_ge (mi := 118) (pc := 16) (off := 53) (t := 69) (by decide +kernel) (by decide) rfl h with ⟨hc, h⟩ | ⟨hc, h⟩
  · refine ite_t hc ?_
    have h := sp_onk (i := .iload_n 2) (by decide +kernel) rfl h
    exact sp_iret (by decide +kernel) h
  · refine ite_f hc ?_
    have h := sp_onk (i := .aload_n 0) (by decide +kernel) rfl h
    have h := sp_getK (jj := 24) (ci := 1) (n := 3) (b := 46) (by decide +kernel) (by decide +kernel) (by decide +kernel) (by decide +kernel) (by decide) hS h
    have h := sp_onk (i := .aload_n 1) (by decide +kernel) rfl h
    obtain ⟨r1, w2, hc, h⟩ := sp_callV (jj := 69) (mj := 119) (n := 1) (v := .ref 46) (args := [.ref o1]) (ls' := [.ref 46, .ref o1]) (by decide +kernel) (by decide +kernel) rfl rfl rfl h
    refine ⟨r1, w2, hc, fun er hSw2 => ?_⟩
    subst er
    have h : PS X k 118 27 [.ref 42, .ref o1, .int i2, .int i3, .int i4, u5] [] w2 r w' := h
    have h := sp_onk (i := .aload_n 0) (by decide +kernel) rfl h
    have h := sp_getK (jj := 24) (ci := 1) (n := 3) (b := 46) (by decide +kernel) (by decide +kernel) (by decide +kernel) (by decide +kernel) (by decide) hSw2 h
    have h := sp_onk (i := .iload 4) (by decide +kernel) rfl h
    obtain ⟨r3, w4, hc, h⟩ := sp_callV (jj := 73) (mj := 86) (n := 1) (v := .ref 46) (args := [.int i4]) (ls' := [.ref 46, .int i4, pm_dead]) (by decide +kernel) (by decide +kernel) rfl rfl rfl h
    refine ⟨r3, w4, hc, fun x5 er hSw4 => ?_⟩
    subst er
    have h : PS X k 118 36 [.ref 42, .ref o1, .int i2, .int i3, .int i4, u5] [.int x5] w4 r w' := h
    have h := sp_onk (i := .pop) (by decide +kernel) rfl h
    have h := sp_onk (i := .aload_n 0) (by decide +kernel) rfl h
    have h := sp_getK (jj := 24) (ci := 1) (n := 3) (b := 46) (by decide +kernel) (by decide +kernel) (by decide +kernel) (by decide +kernel) (by decide) hSw4 h
    obtain ⟨r6, w7, hc, h⟩ := sp_callV (jj := 28) (mj := 105) (n := 0) (v := .ref 46) (args := []) (ls' := [.ref 46, pm_dead, pm_dead]) (by decide +kernel) (by decide +kernel) rfl rfl rfl h
    refine ⟨r6, w7, hc, fun x8 er hSw7 => ?_⟩
    subst er
    have h : PS X k 118 44 [.ref 42, .ref o1, .int i2, .int i3, .int i4, u5] [.int x8] w7 r w' := h
    have h := sp_istore (j := 5) (ls' := [.ref 42, .ref o1, .int i2, .int i3, .int i4, .int x8]) (by decide +kernel) (Nat.le_of_ble_eq_true rfl) rfl h
    have h := sp_onk (i := .iload 4) (by decide +kernel) rfl h
    rcases sp_if_eq (mi := 118) (pc := 48) (off := 9) (t := 57) (by decide +kernel) (by decide) rfl h with ⟨hc, h⟩ | ⟨hc, h⟩
    · refine ite_t hc ?_
      have h := sp_onk (i := .iload 4) (by decide +kernel) rfl h
      have h := sp_istore_n (j := 2) (ls' := [.ref 42, .ref o1, .int i4, .int i3, .int i4, .int x8]) (by decide +kernel) (Nat.le_of_ble_eq_true rfl) rfl h
      have h := sp_onk (i := .iload 5) (by decide +kernel) rfl h
      have h := sp_istore_n (j := 3) (ls' := [.ref 42, .ref o1, .int i4, .int x8, .int i4, .int x8]) (by decide +kernel) (Nat.le_of_ble_eq_true rfl) rfl h
      have h := sp_iinc (j := 4) (n := 1) (v := 1) (ls' := [.ref 42, .ref o1, .int i4, .int x8, .int (i4 + 1), .int x8]) (by decide +kernel) rfl (by decide +kernel) rfl h
      have h := sp_goto (mi := 118) (pc := 66) (off := (-59)) (t := 7) (by decide +kernel) (by decide) rfl h
      exact h
    · refine ite_f hc ?_
      have h := sp_onk (i := .iload 5) (by decide +kernel) rfl h
      have h := sp_onk (i := .iload_n 3) (by decide +kernel) rfl h
      rcases sp_icmp_ge (mi := 118) (pc := 54) (off := 9) (t := 63) (by decide +kernel) (by decide) rfl h with ⟨hc, h⟩ | ⟨hc, h⟩
      · refine ite_t hc ?_
        have h := sp_iinc (j := 4) (n := 1) (v := 1) (ls' := [.ref 42, .ref o1, .int i2, .int i3, .int (i4 + 1), .int x8]) (by decide +kernel) rfl (by decide +kernel) rfl h
        have h := sp_goto (mi := 118) (pc := 66) (off := (-59)) (t := 7) (by decide +kernel) (by decide) rfl h
        exact h
      · refine ite_f hc ?_
        have h := sp_onk (i := .iload 4) (by decide +kernel) rfl h
        have h := sp_istore_n (j := 2) (ls' := [.ref 42, .ref o1, .int i4, .int i3, .int i4, .int x8]) (by decide +kernel) (Nat.le_of_ble_eq_true rfl) rfl h
        have h := sp_onk (i := .iload 5) (by decide +kernel) rfl h
        have h := sp_istore_n (j := 3) (ls' := [.ref 42, .ref o1, .int i4, .int x8, .int i4, .int x8]) (by decide +kernel) (Nat.le_of_ble_eq_true rfl) rfl h
        have h := sp_iinc (j := 4) (n := 1) (v := 1) (ls' := [.ref 42, .ref o1, .int i4, .int x8, .int (i4 + 1), .int x8]) (by decide +kernel) rfl (by decide +kernel) rfl h
        have h := sp_goto (mi := 118) (pc := 66) (off := (-59)) (t := 7) (by decide +kernel) (by decide) rfl h
        exact h
set_option maxRecDepth 20000 in
set_option maxHeartbeats 2000000 in
theorem U254_0 {X : pm_X} {k : Nat} {w w' : pm_W} {r : Option Value} (hS : SK w) (h : PS X (k + 1) 254 0 [.ref 147, pm_dead, pm_dead, pm_dead, pm_dead] [] w r w') : PS X k 254 4 [.ref 147, .int 0, .int 0, pm_dead, pm_dead] [] w r w' := by
  have h := sp_iconst1 (n := 0) (v := 0) (by decide +kernel) (by decide +kernel) h
  have h := sp_istore_n (j := 1) (ls' := [.ref 147, .int 0, pm_dead, pm_dead, pm_dead]) (by decide +kernel) (Nat.le_of_ble_eq_true rfl) rfl h
  have h := sp_iconst (n := 0) (v := 0) (by decide +kernel) (by decide +kernel) h
  have h := sp_istore_n (j := 2) (ls' := [.ref 147, .int 0, .int 0, pm_dead, pm_dead]) (by decide +kernel) (Nat.le_of_ble_eq_true rfl) rfl h
  exact h
set_option maxRecDepth 20000 in
set_option maxHeartbeats 2000000 in
theorem U254_4 {X : pm_X} {k : Nat} {w w' : pm_W} {r : Option Value} {i1 : Int32} {i2 : Int32} {u3 : Value} {u4 : Value} (hS : SK w) (h : PS X (k + 1) 254 4 [.ref 147, .int i1, .int i2, u3, u4] [] w r w') : if 9 ≤ i2 then (r = some (.int i1) ∧ w' = w) else (PS X k 254 12 [.ref 147, .int i1, .int i2, .int 0, u4] [] w r w') := by
  have h := sp_one (i := .iload_n 2) (by decide +kernel) rfl h
  have h := sp_bipush (n := 9) (v := 9) (by decide +kernel) (by decide +kernel) h
  rcases sp_icmp_ge (mi := 254) (pc := 7) (off := 53) (t := 60) (by decide +kernel) (by decide) rfl h with ⟨hc, h⟩ | ⟨hc, h⟩
  · refine ite_t hc ?_
    have h := sp_onk (i := .iload_n 1) (by decide +kernel) rfl h
    exact sp_iret (by decide +kernel) h
  · refine ite_f hc ?_
    have h := sp_iconst (n := 0) (v := 0) (by decide +kernel) (by decide +kernel) h
    have h := sp_istore_n (j := 3) (ls' := [.ref 147, .int i1, .int i2, .int 0, u4]) (by decide +kernel) (Nat.le_of_ble_eq_true rfl) rfl h
    exact h
set_option maxRecDepth 20000 in
set_option maxHeartbeats 2000000 in
theorem U254_12 {X : pm_X} {k : Nat} {w w' : pm_W} {r : Option Value} {i1 : Int32} {i2 : Int32} {i3 : Int32} {u4 : Value} (hS : SK w) (h : PS X (k + 1) 254 12 [.ref 147, .int i1, .int i2, .int i3, u4] [] w r w') : if i2 ≤ i3 then (PS X k 254 4 [.ref 147, .int i1, .int (i2 + 1), .int i3, u4] [] w r w') else (∃ (r1 : Option Value) (w2 : pm_W), PS X k 232 0 [.ref 147, .int i2, .int i3] [] w r1 w2 ∧ (∀ x3 : Int32, r1 = some (.int x3) → SK w2 → (∃ (r4 : Option Value) (w5 : pm_W), PS X k 232 0 [.ref 147, .int i3, .int i2] [] w2 r4 w5 ∧ (∀ x6 : Int32, r4 = some (.int x6) → SK w5 → (if 0 ≤ (x3 - x6) then (PS X k 254 12 [.ref 147, .int (i1 + (x3 - x6)), .int i2, .int (i3 + 1), .int (x3 - x6)] [] w5 r w') else (PS X k 254 12 [.ref 147, .int (i1 + (-(x3 - x6))), .int i2, .int (i3 + 1), .int (x3 - x6)] [] w5 r w')))))) := by
  have h := sp_one (i := .iload_n 3) (by decide +kernel) rfl h
  have h := sp_onk (i := .iload_n 2) (by decide +kernel) rfl h
  rcases sp_icmp_ge (mi := 254) (pc := 14) (off := 40) (t := 54) (by decide +kernel) (by decide) rfl h with ⟨hc, h⟩ | ⟨hc, h⟩
  · refine ite_t hc ?_
    have h := sp_iinc (j := 2) (n := 1) (v := 1) (ls' := [.ref 147, .int i1, .int (i2 + 1), .int i3, u4]) (by decide +kernel) rfl (by decide +kernel) rfl h
    have h := sp_goto (mi := 254) (pc := 57) (off := (-53)) (t := 4) (by decide +kernel) (by decide) rfl h
    exact h
  · refine ite_f hc ?_
    have h := sp_onk (i := .aload_n 0) (by decide +kernel) rfl h
    have h := sp_onk (i := .iload_n 2) (by decide +kernel) rfl h
    have h := sp_onk (i := .iload_n 3) (by decide +kernel) rfl h
    obtain ⟨r1, w2, hc, h⟩ := sp_callV (jj := 181) (mj := 232) (n := 2) (v := .ref 147) (args := [.int i3, .int i2]) (ls' := [.ref 147, .int i2, .int i3]) (by decide +kernel) (by decide +kernel) rfl rfl rfl h
    refine ⟨r1, w2, hc, fun x3 er hSw2 => ?_⟩
    subst er
    have h : PS X k 254 23 [.ref 147, .int i1, .int i2, .int i3, u4] [.int x3] w2 r w' := h
    have h := sp_onk (i := .aload_n 0) (by decide +kernel) rfl h
    have h := sp_onk (i := .iload_n 3) (by decide +kernel) rfl h
    have h := sp_onk (i := .iload_n 2) (by decide +kernel) rfl h
    obtain ⟨r4, w5, hc, h⟩ := sp_callV (jj := 181) (mj := 232) (n := 2) (v := .ref 147) (args := [.int i2, .int i3]) (ls' := [.ref 147, .int i3, .int i2]) (by decide +kernel) (by decide +kernel) rfl rfl rfl h
    refine ⟨r4, w5, hc, fun x6 er hSw5 => ?_⟩
    subst er
    have h : PS X k 254 29 [.ref 147, .int i1, .int i2, .int i3, u4] [.int x6, .int x3] w5 r w' := h
    have h := sp_onk (i := .isub) (by decide +kernel) rfl h
    have h := sp_istore (j := 4) (ls' := [.ref 147, .int i1, .int i2, .int i3, .int (x3 - x6)]) (by decide +kernel) (Nat.le_of_ble_eq_true rfl) rfl h
    have h := sp_onk (i := .iload_n 1) (by decide +kernel) rfl h
    have h := sp_onk (i := .iload 4) (by decide +kernel) rfl h
    rcases sp_if_ge (mi := 254) (pc := 35) (off := 9) (t := 44) (by decide +kernel) (by decide) rfl h with ⟨hc, h⟩ | ⟨hc, h⟩
    · refine ite_t hc ?_
      have h := sp_onk (i := .iload 4) (by decide +kernel) rfl h
      have h := sp_onk (i := .iadd) (by decide +kernel) rfl h
      have h := sp_istore_n (j := 1) (ls' := [.ref 147, .int (i1 + (x3 - x6)), .int i2, .int i3, .int (x3 - x6)]) (by decide +kernel) (Nat.le_of_ble_eq_true rfl) rfl h
      have h := sp_iinc (j := 3) (n := 1) (v := 1) (ls' := [.ref 147, .int (i1 + (x3 - x6)), .int i2, .int (i3 + 1), .int (x3 - x6)]) (by decide +kernel) rfl (by decide +kernel) rfl h
      have h := sp_goto (mi := 254) (pc := 51) (off := (-39)) (t := 12) (by decide +kernel) (by decide) rfl h
      exact h
    · refine ite_f hc ?_
      have h := sp_onk (i := .iload 4) (by decide +kernel) rfl h
      have h := sp_onk (i := .ineg) (by decide +kernel) rfl h
      have h := sp_goto (mi := 254) (pc := 41) (off := 5) (t := 46) (by decide +kernel) (by decide) rfl h
      have h := sp_onk (i := .iadd) (by decide +kernel) rfl h
      have h := sp_istore_n (j := 1) (ls' := [.ref 147, .int (i1 + (-(x3 - x6))), .int i2, .int i3, .int (x3 - x6)]) (by decide +kernel) (Nat.le_of_ble_eq_true rfl) rfl h
      have h := sp_iinc (j := 3) (n := 1) (v := 1) (ls' := [.ref 147, .int (i1 + (-(x3 - x6))), .int i2, .int (i3 + 1), .int (x3 - x6)]) (by decide +kernel) rfl (by decide +kernel) rfl h
      have h := sp_goto (mi := 254) (pc := 51) (off := (-39)) (t := 12) (by decide +kernel) (by decide) rfl h
      exact h
set_option maxRecDepth 20000 in
set_option maxHeartbeats 2000000 in
theorem U255_0 {X : pm_X} {k : Nat} {w w' : pm_W} {r : Option Value} {p1 : Int32} (hS : SK w) (h : PS X (k + 1) 255 0 [.ref 147, .int p1, pm_dead] [] w r w') : PS X k 255 2 [.ref 147, .int p1, .int 0] [] w r w' := by
  have h := sp_iconst1 (n := 0) (v := 0) (by decide +kernel) (by decide +kernel) h
  have h := sp_istore_n (j := 2) (ls' := [.ref 147, .int p1, .int 0]) (by decide +kernel) (Nat.le_of_ble_eq_true rfl) rfl h
  exact h
set_option maxRecDepth 20000 in
set_option maxHeartbeats 2000000 in
theorem U255_2 {X : pm_X} {k : Nat} {w w' : pm_W} {r : Option Value} {i1 : Int32} {i2 : Int32} (hS : SK w) (h : PS X (k + 1) 255 2 [.ref 147, .int i1, .int i2] [] w r w') : aI w 148 i1 ∧ (if (aG w 148 i1) ≤ i2 then (PS X k 255 31 [.ref 147, .int i1, .int 0] [] w r w') else (∃ (r1 : Option Value) (w2 : pm_W), PS X k 242 0 [.ref 147, .int i1, .int i2, pm_dead, pm_dead] [] w r1 w2 ∧ (∀ x3 : Int32, r1 = some (.int x3) → SK w2 → (if x3 = 0 then (PS X k 255 2 [.ref 147, .int i1, .int (i2 + 1)] [] w2 r w') else (r = some (.int (-1)) ∧ w' = w2))))) := by
  have h := sp_one (i := .iload_n 2) (by decide +kernel) rfl h
  have h := sp_onk (i := .aload_n 0) (by decide +kernel) rfl h
  have h := sp_getK (jj := 7) (ci := 12) (n := 0) (b := 148) (by decide +kernel) (by decide +kernel) (by decide +kernel) (by decide +kernel) (by decide) hS h
  have h := sp_onk (i := .iload_n 1) (by decide +kernel) rfl h
  obtain ⟨hi, h⟩ := sp_iald (by decide +kernel) h
  refine ⟨hi, ?_⟩
  rcases sp_icmp_ge (mi := 255) (pc := 9) (off := 20) (t := 29) (by decide +kernel) (by decide) rfl h with ⟨hc, h⟩ | ⟨hc, h⟩
  · refine ite_t hc ?_
    have h := sp_iconst (n := 0) (v := 0) (by decide +kernel) (by decide +kernel) h
    have h := sp_istore_n (j := 2) (ls' := [.ref 147, .int i1, .int 0]) (by decide +kernel) (Nat.le_of_ble_eq_true rfl) rfl h
    exact h
  · refine ite_f hc ?_
    have h := sp_onk (i := .aload_n 0) (by decide +kernel) rfl h
    have h := sp_onk (i := .iload_n 1) (by decide +kernel) rfl h
    have h := sp_onk (i := .iload_n 2) (by decide +kernel) rfl h
    obtain ⟨r1, w2, hc, h⟩ := sp_callV (jj := 211) (mj := 242) (n := 2) (v := .ref 147) (args := [.int i2, .int i1]) (ls' := [.ref 147, .int i1, .int i2, pm_dead, pm_dead]) (by decide +kernel) (by decide +kernel) rfl rfl rfl h
    refine ⟨r1, w2, hc, fun x3 er hSw2 => ?_⟩
    subst er
    have h : PS X k 255 18 [.ref 147, .int i1, .int i2] [.int x3] w2 r w' := h
    rcases sp_if_eq (mi := 255) (pc := 18) (off := 5) (t := 23) (by decide +kernel) (by decide) rfl h with ⟨hc, h⟩ | ⟨hc, h⟩
    · refine ite_t hc ?_
      have h := sp_iinc (j := 2) (n := 1) (v := 1) (ls' := [.ref 147, .int i1, .int (i2 + 1)]) (by decide +kernel) rfl (by decide +kernel) rfl h
      have h := sp_goto (mi := 255) (pc := 26) (off := (-24)) (t := 2) (by decide +kernel) (by decide) rfl h
      exact h
    · refine ite_f hc ?_
      have h := sp_iconst (n := (-1)) (v := (-1)) (by decide +kernel) (by decide +kernel) h
      exact sp_iret (by decide +kernel) h
set_option maxRecDepth 20000 in
set_option maxHeartbeats 2000000 in
theorem U255_31 {X : pm_X} {k : Nat} {w w' : pm_W} {r : Option Value} {i1 : Int32} {i2 : Int32} (hS : SK w) (h : PS X (k + 1) 255 31 [.ref 147, .int i1, .int i2] [] w r w') : ∃ (r1 : Option Value) (w2 : pm_W), PS X k 252 0 [.ref 147, pm_dead, pm_dead] [] w r1 w2 ∧ (∀ x3 : Int32, r1 = some (.int x3) → SK w2 → (if x3 ≤ 0 then (r = some (.int i2) ∧ w' = w2) else (∃ (r4 : Option Value) (w5 : pm_W), PS X k 256 0 [.ref 147, pm_dead, pm_dead, pm_dead, pm_dead] [] w2 r4 w5 ∧ (r4 = none → SK w5 → (PS X k 255 31 [.ref 147, .int i1, .int (i2 + 1)] [] w5 r w'))))) := by
  have h := sp_one (i := .aload_n 0) (by decide +kernel) rfl h
  obtain ⟨r1, w2, hc, h⟩ := sp_callV (jj := 244) (mj := 252) (n := 0) (v := .ref 147) (args := []) (ls' := [.ref 147, pm_dead, pm_dead]) (by decide +kernel) (by decide +kernel) rfl rfl rfl h
  refine ⟨r1, w2, hc, fun x3 er hSw2 => ?_⟩
  subst er
  have h : PS X k 255 35 [.ref 147, .int i1, .int i2] [.int x3] w2 r w' := h
  rcases sp_if_le (mi := 255) (pc := 35) (off := 13) (t := 48) (by decide +kernel) (by decide) rfl h with ⟨hc, h⟩ | ⟨hc, h⟩
  · refine ite_t hc ?_
    have h := sp_onk (i := .iload_n 2) (by decide +kernel) rfl h
    exact sp_iret (by decide +kernel) h
  · refine ite_f hc ?_
    have h := sp_onk (i := .aload_n 0) (by decide +kernel) rfl h
    obtain ⟨r4, w5, hc, h⟩ := sp_callV (jj := 248) (mj := 256) (n := 0) (v := .ref 147) (args := []) (ls' := [.ref 147, pm_dead, pm_dead, pm_dead, pm_dead]) (by decide +kernel) (by decide +kernel) rfl rfl rfl h
    refine ⟨r4, w5, hc, fun er hSw5 => ?_⟩
    subst er
    have h : PS X k 255 42 [.ref 147, .int i1, .int i2] [] w5 r w' := h
    have h := sp_iinc (j := 2) (n := 1) (v := 1) (ls' := [.ref 147, .int i1, .int (i2 + 1)]) (by decide +kernel) rfl (by decide +kernel) rfl h
    have h := sp_goto (mi := 255) (pc := 45) (off := (-14)) (t := 31) (by decide +kernel) (by decide) rfl h
    exact h
set_option maxRecDepth 20000 in
set_option maxHeartbeats 2000000 in
theorem U256_0 {X : pm_X} {k : Nat} {w w' : pm_W} {r : Option Value} (hS : SK w) (h : PS X (k + 1) 256 0 [.ref 147, pm_dead, pm_dead, pm_dead, pm_dead] [] w r w') : PS X k 256 2 [.ref 147, .int 0, pm_dead, pm_dead, pm_dead] [] w r w' := by
  have h := sp_iconst1 (n := 0) (v := 0) (by decide +kernel) (by decide +kernel) h
  have h := sp_istore_n (j := 1) (ls' := [.ref 147, .int 0, pm_dead, pm_dead, pm_dead]) (by decide +kernel) (Nat.le_of_ble_eq_true rfl) rfl h
  exact h
set_option maxRecDepth 20000 in
set_option maxHeartbeats 2000000 in
theorem U256_2 {X : pm_X} {k : Nat} {w w' : pm_W} {r : Option Value} {i1 : Int32} (hS : SK w) (h : PS X (k + 1) 256 2 [.ref 147, .int i1, pm_dead, pm_dead, pm_dead] [] w r w') : if 9 ≤ i1 then (∃ (r1 : Option Value) (w2 : pm_W), PS X k 257 0 [.ref 147, .int (-1), pm_dead] [] w r1 w2 ∧ (∀ x3 : Int32, r1 = some (.int x3) → SK w2 → (PS X k 256 29 [.ref 147, .int 0, .int x3, pm_dead, pm_dead] [] w2 r w'))) else (aI w 155 i1 ∧ (∀ w4 : pm_W, w4 = aS w 155 i1 (-1) → (PS X k 256 2 [.ref 147, .int (i1 + 1), pm_dead, pm_dead, pm_dead] [] w4 r w'))) := by
  have h := sp_one (i := .iload_n 1) (by decide +kernel) rfl h
  have h := sp_bipush (n := 9) (v := 9) (by decide +kernel) (by decide +kernel) h
  rcases sp_icmp_ge (mi := 256) (pc := 5) (off := 16) (t := 21) (by decide +kernel) (by decide) rfl h with ⟨hc, h⟩ | ⟨hc, h⟩
  · refine ite_t hc ?_
    have h := sp_iconst (n := 0) (v := 0) (by decide +kernel) (by decide +kernel) h
    have h := sp_istore_n (j := 1) (ls' := [.ref 147, .int 0, pm_dead, pm_dead, pm_dead]) (by decide +kernel) (Nat.le_of_ble_eq_true rfl) rfl h
    have h := sp_onk (i := .aload_n 0) (by decide +kernel) rfl h
    have h := sp_iconst (n := (-1)) (v := (-1)) (by decide +kernel) (by decide +kernel) h
    obtain ⟨r1, w2, hc, h⟩ := sp_callV (jj := 240) (mj := 257) (n := 1) (v := .ref 147) (args := [.int (-1)]) (ls' := [.ref 147, .int (-1), pm_dead]) (by decide +kernel) (by decide +kernel) rfl rfl rfl h
    refine ⟨r1, w2, hc, fun x3 er hSw2 => ?_⟩
    subst er
    have h : PS X k 256 28 [.ref 147, .int 0, pm_dead, pm_dead, pm_dead] [.int x3] w2 r w' := h
    have h := sp_istore_n (j := 2) (ls' := [.ref 147, .int 0, .int x3, pm_dead, pm_dead]) (by decide +kernel) (Nat.le_of_ble_eq_true rfl) rfl h
    exact h
  · refine ite_f hc ?_
    have h := sp_onk (i := .aload_n 0) (by decide +kernel) rfl h
    have h := sp_getK (jj := 32) (ci := 12) (n := 18) (b := 155) (by decide +kernel) (by decide +kernel) (by decide +kernel) (by decide +kernel) (by decide) hS h
    have h := sp_onk (i := .iload_n 1) (by decide +kernel) rfl h
    have h := sp_iconst (n := (-1)) (v := (-1)) (by decide +kernel) (by decide +kernel) h
    obtain ⟨hi, h⟩ := sp_iast (by decide +kernel) h
    refine ⟨hi, ?_⟩
    intro w4 ew4
    rw [← ew4] at h
    have hSw4 : SK w4 := by rw [ew4]; exact SK_aS hS
    have h := sp_iinc (j := 1) (n := 1) (v := 1) (ls' := [.ref 147, .int (i1 + 1), pm_dead, pm_dead, pm_dead]) (by decide +kernel) rfl (by decide +kernel) rfl h
    have h := sp_goto (mi := 256) (pc := 18) (off := (-16)) (t := 2) (by decide +kernel) (by decide) rfl h
    exact h
set_option maxRecDepth 20000 in
set_option maxHeartbeats 2000000 in
theorem U256_29 {X : pm_X} {k : Nat} {w w' : pm_W} {r : Option Value} {i1 : Int32} {i2 : Int32} (hS : SK w) (h : PS X (k + 1) 256 29 [.ref 147, .int i1, .int i2, pm_dead, pm_dead] [] w r w') : aI w 155 i2 ∧ (if 0 ≤ (aG w 155 i2) then (aI w 154 i1 ∧ (∀ w1 : pm_W, w1 = aS w 154 i1 i2 → (aI w1 155 i2 ∧ (PS X k 256 82 [.ref 147, .int i1, .int i2, .int 1000000, .int (aG w1 155 i2)] [] w1 r w')))) else (aI w 155 i2 ∧ (∀ w2 : pm_W, w2 = aS w 155 i2 i1 → (aI w2 154 i1 ∧ (∀ w3 : pm_W, w3 = aS w2 154 i1 i2 → (∃ (r4 : Option Value) (w5 : pm_W), PS X k 257 0 [.ref 147, .int i2, pm_dead] [] w3 r4 w5 ∧ (∀ x6 : Int32, r4 = some (.int x6) → SK w5 → (PS X k 256 29 [.ref 147, .int (i1 + 1), .int x6, pm_dead, pm_dead] [] w5 r w')))))))) := by
  have h := sp_one (i := .aload_n 0) (by decide +kernel) rfl h
  have h := sp_getK (jj := 32) (ci := 12) (n := 18) (b := 155) (by decide +kernel) (by decide +kernel) (by decide +kernel) (by decide +kernel) (by decide) hS h
  have h := sp_onk (i := .iload_n 2) (by decide +kernel) rfl h
  obtain ⟨hi, h⟩ := sp_iald (by decide +kernel) h
  refine ⟨hi, ?_⟩
  rcases sp_if_ge (mi := 256) (pc := 35) (off := 29) (t := 64) (by decide +kernel) (by decide) rfl h with ⟨hc, h⟩ | ⟨hc, h⟩
  · refine ite_t hc ?_
    have h := sp_onk (i := .aload_n 0) (by decide +kernel) rfl h
    have h := sp_getK (jj := 29) (ci := 12) (n := 17) (b := 154) (by decide +kernel) (by decide +kernel) (by decide +kernel) (by decide +kernel) (by decide) hS h
    have h := sp_onk (i := .iload_n 1) (by decide +kernel) rfl h
    have h := sp_onk (i := .iload_n 2) (by decide +kernel) rfl h
    obtain ⟨hi, h⟩ := sp_iast (by decide +kernel) h
    refine ⟨hi, ?_⟩
    intro w1 ew1
    rw [← ew1] at h
    have hSw1 : SK w1 := by rw [ew1]; exact SK_aS hS
    have h := sp_ldc (j := 243) (v := 1000000) (by decide +kernel) (by decide +kernel) h
    have h := sp_istore_n (j := 3) (ls' := [.ref 147, .int i1, .int i2, .int 1000000, pm_dead]) (by decide +kernel) (Nat.le_of_ble_eq_true rfl) rfl h
    have h := sp_onk (i := .aload_n 0) (by decide +kernel) rfl h
    have h := sp_getK (jj := 32) (ci := 12) (n := 18) (b := 155) (by decide +kernel) (by decide +kernel) (by decide +kernel) (by decide +kernel) (by decide) hSw1 h
    have h := sp_onk (i := .iload_n 2) (by decide +kernel) rfl h
    obtain ⟨hi, h⟩ := sp_iald (by decide +kernel) h
    refine ⟨hi, ?_⟩
    have h := sp_istore (j := 4) (ls' := [.ref 147, .int i1, .int i2, .int 1000000, .int (aG w1 155 i2)]) (by decide +kernel) (Nat.le_of_ble_eq_true rfl) rfl h
    exact h
  · refine ite_f hc ?_
    have h := sp_onk (i := .aload_n 0) (by decide +kernel) rfl h
    have h := sp_getK (jj := 32) (ci := 12) (n := 18) (b := 155) (by decide +kernel) (by decide +kernel) (by decide +kernel) (by decide +kernel) (by decide) hS h
    have h := sp_onk (i := .iload_n 2) (by decide +kernel) rfl h
    have h := sp_onk (i := .iload_n 1) (by decide +kernel) rfl h
    obtain ⟨hi, h⟩ := sp_iast (by decide +kernel) h
    refine ⟨hi, ?_⟩
    intro w2 ew2
    rw [← ew2] at h
    have hSw2 : SK w2 := by rw [ew2]; exact SK_aS hS
    have h := sp_onk (i := .aload_n 0) (by decide +kernel) rfl h
    have h := sp_getK (jj := 29) (ci := 12) (n := 17) (b := 154) (by decide +kernel) (by decide +kernel) (by decide +kernel) (by decide +kernel) (by decide) hSw2 h
    have h := sp_onk (i := .iload_n 1) (by decide +kernel) rfl h
    have h := sp_onk (i := .iload_n 2) (by decide +kernel) rfl h
    obtain ⟨hi, h⟩ := sp_iast (by decide +kernel) h
    refine ⟨hi, ?_⟩
    intro w3 ew3
    rw [← ew3] at h
    have hSw3 : SK w3 := by rw [ew3]; exact SK_aS hSw2
    have h := sp_iinc (j := 1) (n := 1) (v := 1) (ls' := [.ref 147, .int (i1 + 1), .int i2, pm_dead, pm_dead]) (by decide +kernel) rfl (by decide +kernel) rfl h
    have h := sp_onk (i := .aload_n 0) (by decide +kernel) rfl h
    have h := sp_onk (i := .iload_n 2) (by decide +kernel) rfl h
    obtain ⟨r4, w5, hc, h⟩ := sp_callV (jj := 240) (mj := 257) (n := 1) (v := .ref 147) (args := [.int i2]) (ls' := [.ref 147, .int i2, pm_dead]) (by decide +kernel) (by decide +kernel) rfl rfl rfl h
    refine ⟨r4, w5, hc, fun x6 er hSw5 => ?_⟩
    subst er
    have h : PS X k 256 60 [.ref 147, .int (i1 + 1), .int i2, pm_dead, pm_dead] [.int x6] w5 r w' := h
    have h := sp_istore_n (j := 2) (ls' := [.ref 147, .int (i1 + 1), .int x6, pm_dead, pm_dead]) (by decide +kernel) (Nat.le_of_ble_eq_true rfl) rfl h
    have h := sp_goto (mi := 256) (pc := 61) (off := (-32)) (t := 29) (by decide +kernel) (by decide) rfl h
    exact h
set_option maxRecDepth 20000 in
set_option maxHeartbeats 2000000 in
theorem U256_82 {X : pm_X} {k : Nat} {w w' : pm_W} {r : Option Value} {i1 : Int32} {i2 : Int32} {i3 : Int32} {i4 : Int32} (hS : SK w) (h : PS X (k + 1) 256 82 [.ref 147, .int i1, .int i2, .int i3, .int i4] [] w r w') : if i1 ≤ i4 then (aI w 155 i2 ∧ (PS X k 256 151 [.ref 147, .int i1, .int i2, .int i3, .int (aG w 155 i2)] [] w r w')) else (aI w 154 i4 ∧ (aI w 154 (i4 + 1) ∧ (∃ (r1 : Option Value) (w2 : pm_W), PS X k 232 0 [.ref 147, .int (aG w 154 i4), .int (aG w 154 (i4 + 1))] [] w r1 w2 ∧ (∀ x3 : Int32, r1 = some (.int x3) → SK w2 → (if i3 ≤ x3 then (PS X k 256 82 [.ref 147, .int i1, .int i2, .int i3, .int (i4 + 1)] [] w2 r w') else (aI w2 154 i4 ∧ (aI w2 154 (i4 + 1) ∧ (∃ (r4 : Option Value) (w5 : pm_W), PS X k 232 0 [.ref 147, .int (aG w2 154 i4), .int (aG w2 154 (i4 + 1))] [] w2 r4 w5 ∧ (∀ x6 : Int32, r4 = some (.int x6) → SK w5 → (PS X k 256 82 [.ref 147, .int i1, .int i2, .int x6, .int (i4 + 1)] [] w5 r w')))))))))) := by
  have h := sp_one (i := .iload 4) (by decide +kernel) rfl h
  have h := sp_onk (i := .iload_n 1) (by decide +kernel) rfl h
  rcases sp_icmp_ge (mi := 256) (pc := 85) (off := 58) (t := 143) (by decide +kernel) (by decide) rfl h with ⟨hc, h⟩ | ⟨hc, h⟩
  · refine ite_t hc ?_
    have h := sp_onk (i := .aload_n 0) (by decide +kernel) rfl h
    have h := sp_getK (jj := 32) (ci := 12) (n := 18) (b := 155) (by decide +kernel) (by decide +kernel) (by decide +kernel) (by decide +kernel) (by decide) hS h
    have h := sp_onk (i := .iload_n 2) (by decide +kernel) rfl h
    obtain ⟨hi, h⟩ := sp_iald (by decide +kernel) h
    refine ⟨hi, ?_⟩
    have h := sp_istore (j := 4) (ls' := [.ref 147, .int i1, .int i2, .int i3, .int (aG w 155 i2)]) (by decide +kernel) (Nat.le_of_ble_eq_true rfl) rfl h
    exact h
  · refine ite_f hc ?_
    have h := sp_onk (i := .aload_n 0) (by decide +kernel) rfl h
    have h := sp_onk (i := .aload_n 0) (by decide +kernel) rfl h
    have h := sp_getK (jj := 29) (ci := 12) (n := 17) (b := 154) (by decide +kernel) (by decide +kernel) (by decide +kernel) (by decide +kernel) (by decide) hS h
    have h := sp_onk (i := .iload 4) (by decide +kernel) rfl h
    obtain ⟨hi, h⟩ := sp_iald (by decide +kernel) h
    refine ⟨hi, ?_⟩
    have h := sp_onk (i := .aload_n 0) (by decide +kernel) rfl h
    have h := sp_getK (jj := 29) (ci := 12) (n := 17) (b := 154) (by decide +kernel) (by decide +kernel) (by decide +kernel) (by decide +kernel) (by decide) hS h
    have h := sp_onk (i := .iload 4) (by decide +kernel) rfl h
    have h := sp_iconst (n := 1) (v := 1) (by decide +kernel) (by decide +kernel) h
    have h := sp_onk (i := .iadd) (by decide +kernel) rfl h
    obtain ⟨hi, h⟩ := sp_iald (by decide +kernel) h
    refine ⟨hi, ?_⟩
    obtain ⟨r1, w2, hc, h⟩ := sp_callV (jj := 181) (mj := 232) (n := 2) (v := .ref 147) (args := [.int (aG w 154 (i4 + 1)), .int (aG w 154 i4)]) (ls' := [.ref 147, .int (aG w 154 i4), .int (aG w 154 (i4 + 1))]) (by decide +kernel) (by decide +kernel) rfl rfl rfl h
    refine ⟨r1, w2, hc, fun x3 er hSw2 => ?_⟩
    subst er
    have h : PS X k 256 108 [.ref 147, .int i1, .int i2, .int i3, .int i4] [.int x3] w2 r w' := h
    have h := sp_onk (i := .iload_n 3) (by decide +kernel) rfl h
    rcases sp_icmp_ge (mi := 256) (pc := 109) (off := 26) (t := 135) (by decide +kernel) (by decide) rfl h with ⟨hc, h⟩ | ⟨hc, h⟩
    · refine ite_t hc ?_
      have h := sp_onk (i := .iload_n 3) (by decide +kernel) rfl h
      have h := sp_istore_n (j := 3) (ls' := [.ref 147, .int i1, .int i2, .int i3, .int i4]) (by decide +kernel) (Nat.le_of_ble_eq_true rfl) rfl h
      have h := sp_iinc (j := 4) (n := 1) (v := 1) (ls' := [.ref 147, .int i1, .int i2, .int i3, .int (i4 + 1)]) (by decide +kernel) rfl (by decide +kernel) rfl h
      have h := sp_goto (mi := 256) (pc := 140) (off := (-58)) (t := 82) (by decide +kernel) (by decide) rfl h
      exact h
    · refine ite_f hc ?_
      have h := sp_onk (i := .aload_n 0) (by decide +kernel) rfl h
      have h := sp_onk (i := .aload_n 0) (by decide +kernel) rfl h
      have h := sp_getK (jj := 29) (ci := 12) (n := 17) (b := 154) (by decide +kernel) (by decide +kernel) (by decide +kernel) (by decide +kernel) (by decide) hSw2 h
      have h := sp_onk (i := .iload 4) (by decide +kernel) rfl h
      obtain ⟨hi, h⟩ := sp_iald (by decide +kernel) h
      refine ⟨hi, ?_⟩
      have h := sp_onk (i := .aload_n 0) (by decide +kernel) rfl h
      have h := sp_getK (jj := 29) (ci := 12) (n := 17) (b := 154) (by decide +kernel) (by decide +kernel) (by decide +kernel) (by decide +kernel) (by decide) hSw2 h
      have h := sp_onk (i := .iload 4) (by decide +kernel) rfl h
      have h := sp_iconst (n := 1) (v := 1) (by decide +kernel) (by decide +kernel) h
      have h := sp_onk (i := .iadd) (by decide +kernel) rfl h
      obtain ⟨hi, h⟩ := sp_iald (by decide +kernel) h
      refine ⟨hi, ?_⟩
      obtain ⟨r4, w5, hc, h⟩ := sp_callV (jj := 181) (mj := 232) (n := 2) (v := .ref 147) (args := [.int (aG w2 154 (i4 + 1)), .int (aG w2 154 i4)]) (ls' := [.ref 147, .int (aG w2 154 i4), .int (aG w2 154 (i4 + 1))]) (by decide +kernel) (by decide +kernel) rfl rfl rfl h
      refine ⟨r4, w5, hc, fun x6 er hSw5 => ?_⟩
      subst er
      have h : PS X k 256 132 [.ref 147, .int i1, .int i2, .int i3, .int i4] [.int x6] w5 r w' := h
      have h := sp_goto (mi := 256) (pc := 132) (off := 4) (t := 136) (by decide +kernel) (by decide) rfl h
      have h := sp_istore_n (j := 3) (ls' := [.ref 147, .int i1, .int i2, .int x6, .int i4]) (by decide +kernel) (Nat.le_of_ble_eq_true rfl) rfl h
      have h := sp_iinc (j := 4) (n := 1) (v := 1) (ls' := [.ref 147, .int i1, .int i2, .int x6, .int (i4 + 1)]) (by decide +kernel) rfl (by decide +kernel) rfl h
      have h := sp_goto (mi := 256) (pc := 140) (off := (-58)) (t := 82) (by decide +kernel) (by decide) rfl h
      exact h
set_option maxRecDepth 20000 in
set_option maxHeartbeats 2000000 in
theorem U256_151 {X : pm_X} {k : Nat} {w w' : pm_W} {r : Option Value} {i1 : Int32} {i2 : Int32} {i3 : Int32} {i4 : Int32} (hS : SK w) (h : PS X (k + 1) 256 151 [.ref 147, .int i1, .int i2, .int i3, .int i4] [] w r w') : if i1 ≤ i4 then (r = none ∧ w' = w) else (aI w 154 i4 ∧ (aI w 154 (i4 + 1) ∧ (aI w 152 ((9 * (aG w 154 i4)) + (aG w 154 (i4 + 1))) ∧ (aI w 152 ((9 * (aG w 154 i4)) + (aG w 154 (i4 + 1))) ∧ (∀ w1 : pm_W, w1 = aS w 152 ((9 * (aG w 154 i4)) + (aG w 154 (i4 + 1))) ((aG w 152 ((9 * (aG w 154 i4)) + (aG w 154 (i4 + 1)))) - i3) → (PS X k 256 151 [.ref 147, .int i1, .int i2, .int i3, .int (i4 + 1)] [] w1 r w')))))) := by
  have h := sp_one (i := .iload 4) (by decide +kernel) rfl h
  have h := sp_onk (i := .iload_n 1) (by decide +kernel) rfl h
  rcases sp_icmp_ge (mi := 256) (pc := 154) (off := 38) (t := 192) (by decide +kernel) (by decide) rfl h with ⟨hc, h⟩ | ⟨hc, h⟩
  · refine ite_t hc ?_
    exact sp_vret (by decide +kernel) h
  · refine ite_f hc ?_
    have h := sp_onk (i := .aload_n 0) (by decide +kernel) rfl h
    have h := sp_getK (jj := 23) (ci := 12) (n := 12) (b := 152) (by decide +kernel) (by decide +kernel) (by decide +kernel) (by decide +kernel) (by decide) hS h
    have h := sp_bipush (n := 9) (v := 9) (by decide +kernel) (by decide +kernel) h
    have h := sp_onk (i := .aload_n 0) (by decide +kernel) rfl h
    have h := sp_getK (jj := 29) (ci := 12) (n := 17) (b := 154) (by decide +kernel) (by decide +kernel) (by decide +kernel) (by decide +kernel) (by decide) hS h
    have h := sp_onk (i := .iload 4) (by decide +kernel) rfl h
    obtain ⟨hi, h⟩ := sp_iald (by decide +kernel) h
    refine ⟨hi, ?_⟩
    have h := sp_onk (i := .imul) (by decide +kernel) rfl h
    have h := sp_onk (i := .aload_n 0) (by decide +kernel) rfl h
    have h := sp_getK (jj := 29) (ci := 12) (n := 17) (b := 154) (by decide +kernel) (by decide +kernel) (by decide +kernel) (by decide +kernel) (by decide) hS h
    have h := sp_onk (i := .iload 4) (by decide +kernel) rfl h
    have h := sp_iconst (n := 1) (v := 1) (by decide +kernel) (by decide +kernel) h
    have h := sp_onk (i := .iadd) (by decide +kernel) rfl h
    obtain ⟨hi, h⟩ := sp_iald (by decide +kernel) h
    refine ⟨hi, ?_⟩
    have h := sp_onk (i := .iadd) (by decide +kernel) rfl h
    have h := sp_onk (i := .dup2) (by decide +kernel) rfl h
    obtain ⟨hi, h⟩ := sp_iald (by decide +kernel) h
    refine ⟨hi, ?_⟩
    have h := sp_onk (i := .iload_n 3) (by decide +kernel) rfl h
    have h := sp_onk (i := .isub) (by decide +kernel) rfl h
    obtain ⟨hi, h⟩ := sp_iast (by decide +kernel) h
    refine ⟨hi, ?_⟩
    intro w1 ew1
    rw [← ew1] at h
    have hSw1 : SK w1 := by rw [ew1]; exact SK_aS hS
    have h := sp_iinc (j := 4) (n := 1) (v := 1) (ls' := [.ref 147, .int i1, .int i2, .int i3, .int (i4 + 1)]) (by decide +kernel) rfl (by decide +kernel) rfl h
    have h := sp_goto (mi := 256) (pc := 189) (off := (-38)) (t := 151) (by decide +kernel) (by decide) rfl h
    exact h
set_option maxRecDepth 20000 in
set_option maxHeartbeats 2000000 in
theorem U257_0 {X : pm_X} {k : Nat} {w w' : pm_W} {r : Option Value} {p1 : Int32} (hS : SK w) (h : PS X (k + 1) 257 0 [.ref 147, .int p1, pm_dead] [] w r w') : PS X k 257 2 [.ref 147, .int p1, .int 0] [] w r w' := by
  have h := sp_iconst1 (n := 0) (v := 0) (by decide +kernel) (by decide +kernel) h
  have h := sp_istore_n (j := 2) (ls' := [.ref 147, .int p1, .int 0]) (by decide +kernel) (Nat.le_of_ble_eq_true rfl) rfl h
  exact h
set_option maxRecDepth 20000 in
set_option maxHeartbeats 2000000 in
theorem U257_2 {X : pm_X} {k : Nat} {w w' : pm_W} {r : Option Value} {i1 : Int32} {i2 : Int32} (hS : SK w) (h : PS X (k + 1) 257 2 [.ref 147, .int i1, .int i2] [] w r w') : if 81 ≤ i2 then (r = some (.int (-1)) ∧ w' = w) else (aI w 152 i2 ∧ (if (aG w 152 i2) ≤ 0 then (PS X k 257 2 [.ref 147, .int i1, .int (i2 + 1)] [] w r w') else (if i1 < 0 then (if 0 ≤ i1 then (r = some (.int (i2 - i2 / 9 * 9)) ∧ w' = w) else (r = some (.int (i2 / 9)) ∧ w' = w)) else (if (i2 / 9) = i1 then (if 0 ≤ i1 then (r = some (.int (i2 - i2 / 9 * 9)) ∧ w' = w) else (r = some (.int (i2 / 9)) ∧ w' = w)) else (PS X k 257 2 [.ref 147, .int i1, .int (i2 + 1)] [] w r w'))))) := by
  have h := sp_one (i := .iload_n 2) (by decide +kernel) rfl h
  have h := sp_bipush (n := 81) (v := 81) (by decide +kernel) (by decide +kernel) h
  rcases sp_icmp_ge (mi := 257) (pc := 5) (off := 46) (t := 51) (by decide +kernel) (by decide) rfl h with ⟨hc, h⟩ | ⟨hc, h⟩
  · refine ite_t hc ?_
    have h := sp_iconst (n := (-1)) (v := (-1)) (by decide +kernel) (by decide +kernel) h
    exact sp_iret (by decide +kernel) h
  · refine ite_f hc ?_
    have h := sp_onk (i := .aload_n 0) (by decide +kernel) rfl h
    have h := sp_getK (jj := 23) (ci := 12) (n := 12) (b := 152) (by decide +kernel) (by decide +kernel) (by decide +kernel) (by decide +kernel) (by decide) hS h
    have h := sp_onk (i := .iload_n 2) (by decide +kernel) rfl h
    obtain ⟨hi, h⟩ := sp_iald (by decide +kernel) h
    refine ⟨hi, ?_⟩
    rcases sp_if_le (mi := 257) (pc := 14) (off := 31) (t := 45) (by decide +kernel) (by decide) rfl h with ⟨hc, h⟩ | ⟨hc, h⟩
    · refine ite_t hc ?_
      have h := sp_iinc (j := 2) (n := 1) (v := 1) (ls' := [.ref 147, .int i1, .int (i2 + 1)]) (by decide +kernel) rfl (by decide +kernel) rfl h
      have h := sp_goto (mi := 257) (pc := 48) (off := (-46)) (t := 2) (by decide +kernel) (by decide) rfl h
      exact h
    · refine ite_f hc ?_
      have h := sp_onk (i := .iload_n 1) (by decide +kernel) rfl h
      rcases sp_if_lt (mi := 257) (pc := 18) (off := 11) (t := 29) (by decide +kernel) (by decide) rfl h with ⟨hc, h⟩ | ⟨hc, h⟩
      · refine ite_t hc ?_
        have h := sp_onk (i := .iload_n 1) (by decide +kernel) rfl h
        rcases sp_if_ge (mi := 257) (pc := 30) (off := 10) (t := 40) (by decide +kernel) (by decide) rfl h with ⟨hc, h⟩ | ⟨hc, h⟩
        · refine ite_t hc ?_
          have h := sp_onk (i := .iload_n 2) (by decide +kernel) rfl h
          have h := sp_bipush (n := 9) (v := 9) (by decide +kernel) (by decide +kernel) h
          have h := sp_irem (by decide +kernel) h
          exact sp_iret (by decide +kernel) h
        · refine ite_f hc ?_
          have h := sp_onk (i := .iload_n 2) (by decide +kernel) rfl h
          have h := sp_bipush (n := 9) (v := 9) (by decide +kernel) (by decide +kernel) h
          have h := sp_idiv (by decide +kernel) h
          have h := sp_goto (mi := 257) (pc := 37) (off := 7) (t := 44) (by decide +kernel) (by decide) rfl h
          exact sp_iret (by decide +kernel) h
      · refine ite_f hc ?_
        have h := sp_onk (i := .iload_n 2) (by decide +kernel) rfl h
        have h := sp_bipush (n := 9) (v := 9) (by decide +kernel) (by decide +kernel) h
        have h := sp_idiv (by decide +kernel) h
        have h := sp_onk (i := .iload_n 1) (by decide +kernel) rfl h
        rcases sp_icmp_ne (mi := 257) (pc := 26) (off := 19) (t := 45) (by decide +kernel) (by decide) rfl h with ⟨hc, h⟩ | ⟨hc, h⟩
        · refine ite_f hc ?_
          have h := sp_iinc (j := 2) (n := 1) (v := 1) (ls' := [.ref 147, .int i1, .int (i2 + 1)]) (by decide +kernel) rfl (by decide +kernel) rfl h
          have h := sp_goto (mi := 257) (pc := 48) (off := (-46)) (t := 2) (by decide +kernel) (by decide) rfl h
          exact h
        · refine ite_t (Classical.not_not.mp hc) ?_
          have h := sp_onk (i := .iload_n 1) (by decide +kernel) rfl h
          rcases sp_if_ge (mi := 257) (pc := 30) (off := 10) (t := 40) (by decide +kernel) (by decide) rfl h with ⟨hc, h⟩ | ⟨hc, h⟩
          · refine ite_t hc ?_
            have h := sp_onk (i := .iload_n 2) (by decide +kernel) rfl h
            have h := sp_bipush (n := 9) (v := 9) (by decide +kernel) (by decide +kernel) h
            have h := sp_irem (by decide +kernel) h
            exact sp_iret (by decide +kernel) h
          · refine ite_f hc ?_
            have h := sp_onk (i := .iload_n 2) (by decide +kernel) rfl h
            have h := sp_bipush (n := 9) (v := 9) (by decide +kernel) (by decide +kernel) h
            have h := sp_idiv (by decide +kernel) h
            have h := sp_goto (mi := 257) (pc := 37) (off := 7) (t := 44) (by decide +kernel) (by decide) rfl h
            exact sp_iret (by decide +kernel) h
set_option maxRecDepth 20000 in
set_option maxHeartbeats 2000000 in
theorem U258_0 {X : pm_X} {k : Nat} {w w' : pm_W} {r : Option Value} (hS : SK w) (h : PS X (k + 1) 258 0 [.ref 147, pm_dead, pm_dead, pm_dead] [] w r w') : PS X k 258 4 [.ref 147, .int 0, .int 0, pm_dead] [] w r w' := by
  have h := sp_iconst1 (n := 0) (v := 0) (by decide +kernel) (by decide +kernel) h
  have h := sp_istore_n (j := 1) (ls' := [.ref 147, .int 0, pm_dead, pm_dead]) (by decide +kernel) (Nat.le_of_ble_eq_true rfl) rfl h
  have h := sp_iconst (n := 0) (v := 0) (by decide +kernel) (by decide +kernel) h
  have h := sp_istore_n (j := 2) (ls' := [.ref 147, .int 0, .int 0, pm_dead]) (by decide +kernel) (Nat.le_of_ble_eq_true rfl) rfl h
  exact h
set_option maxRecDepth 20000 in
set_option maxHeartbeats 2000000 in
theorem U258_4 {X : pm_X} {k : Nat} {w w' : pm_W} {r : Option Value} {i1 : Int32} {i2 : Int32} {u3 : Value} (hS : SK w) (h : PS X (k + 1) 258 4 [.ref 147, .int i1, .int i2, u3] [] w r w') : if 9 ≤ i2 then (r = some (.int i1) ∧ w' = w) else (PS X k 258 12 [.ref 147, .int i1, .int i2, .int 0] [] w r w') := by
  have h := sp_one (i := .iload_n 2) (by decide +kernel) rfl h
  have h := sp_bipush (n := 9) (v := 9) (by decide +kernel) (by decide +kernel) h
  rcases sp_icmp_ge (mi := 258) (pc := 7) (off := 48) (t := 55) (by decide +kernel) (by decide) rfl h with ⟨hc, h⟩ | ⟨hc, h⟩
  · refine ite_t hc ?_
    have h := sp_onk (i := .iload_n 1) (by decide +kernel) rfl h
    exact sp_iret (by decide +kernel) h
  · refine ite_f hc ?_
    have h := sp_iconst (n := 0) (v := 0) (by decide +kernel) (by decide +kernel) h
    have h := sp_istore_n (j := 3) (ls' := [.ref 147, .int i1, .int i2, .int 0]) (by decide +kernel) (Nat.le_of_ble_eq_true rfl) rfl h
    exact h
set_option maxRecDepth 20000 in
set_option maxHeartbeats 2000000 in
theorem U258_12 {X : pm_X} {k : Nat} {w w' : pm_W} {r : Option Value} {i1 : Int32} {i2 : Int32} {i3 : Int32} (hS : SK w) (h : PS X (k + 1) 258 12 [.ref 147, .int i1, .int i2, .int i3] [] w r w') : if i2 ≤ i3 then (PS X k 258 4 [.ref 147, .int i1, .int (i2 + 1), .int i3] [] w r w') else (∃ (r1 : Option Value) (w2 : pm_W), PS X k 232 0 [.ref 147, .int i2, .int i3] [] w r1 w2 ∧ (∀ x3 : Int32, r1 = some (.int x3) → SK w2 → (if x3 ≤ 0 then (PS X k 258 12 [.ref 147, .int (i1 + 0), .int i2, .int (i3 + 1)] [] w2 r w') else (∃ (r4 : Option Value) (w5 : pm_W), PS X k 232 0 [.ref 147, .int i3, .int i2] [] w2 r4 w5 ∧ (∀ x6 : Int32, r4 = some (.int x6) → SK w5 → (if x6 ≤ 0 then (PS X k 258 12 [.ref 147, .int (i1 + 0), .int i2, .int (i3 + 1)] [] w5 r w') else (PS X k 258 12 [.ref 147, .int (i1 + 1), .int i2, .int (i3 + 1)] [] w5 r w'))))))) := by
  have h := sp_one (i := .iload_n 3) (by decide +kernel) rfl h
  have h := sp_onk (i := .iload_n 2) (by decide +kernel) rfl h
  rcases sp_icmp_ge (mi := 258) (pc := 14) (off := 35) (t := 49) (by decide +kernel) (by decide) rfl h with ⟨hc, h⟩ | ⟨hc, h⟩
  · refine ite_t hc ?_
    have h := sp_iinc (j := 2) (n := 1) (v := 1) (ls' := [.ref 147, .int i1, .int (i2 + 1), .int i3]) (by decide +kernel) rfl (by decide +kernel) rfl h
    have h := sp_goto (mi := 258) (pc := 52) (off := (-48)) (t := 4) (by decide +kernel) (by decide) rfl h
    exact h
  · refine ite_f hc ?_
    have h := sp_onk (i := .iload_n 1) (by decide +kernel) rfl h
    have h := sp_onk (i := .aload_n 0) (by decide +kernel) rfl h
    have h := sp_onk (i := .iload_n 2) (by decide +kernel) rfl h
    have h := sp_onk (i := .iload_n 3) (by decide +kernel) rfl h
    obtain ⟨r1, w2, hc, h⟩ := sp_callV (jj := 181) (mj := 232) (n := 2) (v := .ref 147) (args := [.int i3, .int i2]) (ls' := [.ref 147, .int i2, .int i3]) (by decide +kernel) (by decide +kernel) rfl rfl rfl h
    refine ⟨r1, w2, hc, fun x3 er hSw2 => ?_⟩
    subst er
    have h : PS X k 258 24 [.ref 147, .int i1, .int i2, .int i3] [.int x3, .int i1] w2 r w' := h
    rcases sp_if_le (mi := 258) (pc := 24) (off := 16) (t := 40) (by decide +kernel) (by decide) rfl h with ⟨hc, h⟩ | ⟨hc, h⟩
    · refine ite_t hc ?_
      have h := sp_iconst (n := 0) (v := 0) (by decide +kernel) (by decide +kernel) h
      have h := sp_onk (i := .iadd) (by decide +kernel) rfl h
      have h := sp_istore_n (j := 1) (ls' := [.ref 147, .int (i1 + 0), .int i2, .int i3]) (by decide +kernel) (Nat.le_of_ble_eq_true rfl) rfl h
      have h := sp_iinc (j := 3) (n := 1) (v := 1) (ls' := [.ref 147, .int (i1 + 0), .int i2, .int (i3 + 1)]) (by decide +kernel) rfl (by decide +kernel) rfl h
      have h := sp_goto (mi := 258) (pc := 46) (off := (-34)) (t := 12) (by decide +kernel) (by decide) rfl h
      exact h
    · refine ite_f hc ?_
      have h := sp_onk (i := .aload_n 0) (by decide +kernel) rfl h
      have h := sp_onk (i := .iload_n 3) (by decide +kernel) rfl h
      have h := sp_onk (i := .iload_n 2) (by decide +kernel) rfl h
      obtain ⟨r4, w5, hc, h⟩ := sp_callV (jj := 181) (mj := 232) (n := 2) (v := .ref 147) (args := [.int i2, .int i3]) (ls' := [.ref 147, .int i3, .int i2]) (by decide +kernel) (by decide +kernel) rfl rfl rfl h
      refine ⟨r4, w5, hc, fun x6 er hSw5 => ?_⟩
      subst er
      have h : PS X k 258 33 [.ref 147, .int i1, .int i2, .int i3] [.int x6, .int i1] w5 r w' := h
      rcases sp_if_le (mi := 258) (pc := 33) (off := 7) (t := 40) (by decide +kernel) (by decide) rfl h with ⟨hc, h⟩ | ⟨hc, h⟩
      · refine ite_t hc ?_
        have h := sp_iconst (n := 0) (v := 0) (by decide +kernel) (by decide +kernel) h
        have h := sp_onk (i := .iadd) (by decide +kernel) rfl h
        have h := sp_istore_n (j := 1) (ls' := [.ref 147, .int (i1 + 0), .int i2, .int i3]) (by decide +kernel) (Nat.le_of_ble_eq_true rfl) rfl h
        have h := sp_iinc (j := 3) (n := 1) (v := 1) (ls' := [.ref 147, .int (i1 + 0), .int i2, .int (i3 + 1)]) (by decide +kernel) rfl (by decide +kernel) rfl h
        have h := sp_goto (mi := 258) (pc := 46) (off := (-34)) (t := 12) (by decide +kernel) (by decide) rfl h
        exact h
      · refine ite_f hc ?_
        have h := sp_iconst (n := 1) (v := 1) (by decide +kernel) (by decide +kernel) h
        have h := sp_goto (mi := 258) (pc := 37) (off := 4) (t := 41) (by decide +kernel) (by decide) rfl h
        have h := sp_onk (i := .iadd) (by decide +kernel) rfl h
        have h := sp_istore_n (j := 1) (ls' := [.ref 147, .int (i1 + 1), .int i2, .int i3]) (by decide +kernel) (Nat.le_of_ble_eq_true rfl) rfl h
        have h := sp_iinc (j := 3) (n := 1) (v := 1) (ls' := [.ref 147, .int (i1 + 1), .int i2, .int (i3 + 1)]) (by decide +kernel) rfl (by decide +kernel) rfl h
        have h := sp_goto (mi := 258) (pc := 46) (off := (-34)) (t := 12) (by decide +kernel) (by decide) rfl h
        exact h
set_option maxRecDepth 20000 in
set_option maxHeartbeats 2000000 in
theorem U259_0 {X : pm_X} {k : Nat} {w w' : pm_W} {r : Option Value} {p1 : Int32} (hS : SK w) (h : PS X (k + 1) 259 0 [.ref 147, .int p1, pm_dead, pm_dead] [] w r w') : PS X k 259 4 [.ref 147, .int p1, .int 0, .int 0] [] w r w' := by
  have h := sp_iconst1 (n := 0) (v := 0) (by decide +kernel) (by decide +kernel) h
  have h := sp_istore_n (j := 2) (ls' := [.ref 147, .int p1, .int 0, pm_dead]) (by decide +kernel) (Nat.le_of_ble_eq_true rfl) rfl h
  have h := sp_iconst (n := 0) (v := 0) (by decide +kernel) (by decide +kernel) h
  have h := sp_istore_n (j := 3) (ls' := [.ref 147, .int p1, .int 0, .int 0]) (by decide +kernel) (Nat.le_of_ble_eq_true rfl) rfl h
  exact h
set_option maxRecDepth 20000 in
set_option maxHeartbeats 2000000 in
theorem U259_4 {X : pm_X} {k : Nat} {w w' : pm_W} {r : Option Value} {i1 : Int32} {i2 : Int32} {i3 : Int32} (hS : SK w) (h : PS X (k + 1) 259 4 [.ref 147, .int i1, .int i2, .int i3] [] w r w') : aI w 148 i1 ∧ (if (aG w 148 i1) ≤ i3 then (r = some (.int i2) ∧ w' = w) else (∃ (r1 : Option Value) (w2 : pm_W), PS X k 260 0 [.ref 147, .int i1, .int i3, pm_dead, pm_dead] [] w r1 w2 ∧ (∀ x3 : Int32, r1 = some (.int x3) → SK w2 → (if x3 = 0 then (PS X k 259 4 [.ref 147, .int i1, .int (i2 ||| (1 <<< (i3 &&& 31))), .int (i3 + 1)] [] w2 r w') else (PS X k 259 4 [.ref 147, .int i1, .int (i2 ||| 0), .int (i3 + 1)] [] w2 r w'))))) := by
  have h := sp_one (i := .iload_n 3) (by decide +kernel) rfl h
  have h := sp_onk (i := .aload_n 0) (by decide +kernel) rfl h
  have h := sp_getK (jj := 7) (ci := 12) (n := 0) (b := 148) (by decide +kernel) (by decide +kernel) (by decide +kernel) (by decide +kernel) (by decide) hS h
  have h := sp_onk (i := .iload_n 1) (by decide +kernel) rfl h
  obtain ⟨hi, h⟩ := sp_iald (by decide +kernel) h
  refine ⟨hi, ?_⟩
  rcases sp_icmp_ge (mi := 259) (pc := 11) (off := 28) (t := 39) (by decide +kernel) (by decide) rfl h with ⟨hc, h⟩ | ⟨hc, h⟩
  · refine ite_t hc ?_
    have h := sp_onk (i := .iload_n 2) (by decide +kernel) rfl h
    exact sp_iret (by decide +kernel) h
  · refine ite_f hc ?_
    have h := sp_onk (i := .iload_n 2) (by decide +kernel) rfl h
    have h := sp_onk (i := .aload_n 0) (by decide +kernel) rfl h
    have h := sp_onk (i := .iload_n 1) (by decide +kernel) rfl h
    have h := sp_onk (i := .iload_n 3) (by decide +kernel) rfl h
    obtain ⟨r1, w2, hc, h⟩ := sp_callV (jj := 251) (mj := 260) (n := 2) (v := .ref 147) (args := [.int i3, .int i1]) (ls' := [.ref 147, .int i1, .int i3, pm_dead, pm_dead]) (by decide +kernel) (by decide +kernel) rfl rfl rfl h
    refine ⟨r1, w2, hc, fun x3 er hSw2 => ?_⟩
    subst er
    have h : PS X k 259 21 [.ref 147, .int i1, .int i2, .int i3] [.int x3, .int i2] w2 r w' := h
    rcases sp_if_ne (mi := 259) (pc := 21) (off := 9) (t := 30) (by decide +kernel) (by decide) rfl h with ⟨hc, h⟩ | ⟨hc, h⟩
    · refine ite_f hc ?_
      have h := sp_iconst (n := 0) (v := 0) (by decide +kernel) (by decide +kernel) h
      have h := sp_onk (i := .ior) (by decide +kernel) rfl h
      have h := sp_istore_n (j := 2) (ls' := [.ref 147, .int i1, .int (i2 ||| 0), .int i3]) (by decide +kernel) (Nat.le_of_ble_eq_true rfl) rfl h
      have h := sp_iinc (j := 3) (n := 1) (v := 1) (ls' := [.ref 147, .int i1, .int (i2 ||| 0), .int (i3 + 1)]) (by decide +kernel) rfl (by decide +kernel) rfl h
      have h := sp_goto (mi := 259) (pc := 36) (off := (-32)) (t := 4) (by decide +kernel) (by decide) rfl h
      exact h
    · refine ite_t (Classical.not_not.mp hc) ?_
      have h := sp_iconst (n := 1) (v := 1) (by decide +kernel) (by decide +kernel) h
      have h := sp_onk (i := .iload_n 3) (by decide +kernel) rfl h
      have h := sp_onk (i := .ishl) (by decide +kernel) rfl h
      have h := sp_goto (mi := 259) (pc := 27) (off := 4) (t := 31) (by decide +kernel) (by decide) rfl h
      have h := sp_onk (i := .ior) (by decide +kernel) rfl h
      have h := sp_istore_n (j := 2) (ls' := [.ref 147, .int i1, .int (i2 ||| (1 <<< (i3 &&& 31))), .int i3]) (by decide +kernel) (Nat.le_of_ble_eq_true rfl) rfl h
      have h := sp_iinc (j := 3) (n := 1) (v := 1) (ls' := [.ref 147, .int i1, .int (i2 ||| (1 <<< (i3 &&& 31))), .int (i3 + 1)]) (by decide +kernel) rfl (by decide +kernel) rfl h
      have h := sp_goto (mi := 259) (pc := 36) (off := (-32)) (t := 4) (by decide +kernel) (by decide) rfl h
      exact h
set_option maxRecDepth 20000 in
set_option maxHeartbeats 2000000 in
theorem U260_0 {X : pm_X} {k : Nat} {w w' : pm_W} {r : Option Value} {p1 : Int32} {p2 : Int32} (hS : SK w) (h : PS X (k + 1) 260 0 [.ref 147, .int p1, .int p2, pm_dead, pm_dead] [] w r w') : PS X k 260 5 [.ref 147, .int p1, .int p2, .int 0, .int 0] [] w r w' := by
  have h := sp_iconst1 (n := 0) (v := 0) (by decide +kernel) (by decide +kernel) h
  have h := sp_istore_n (j := 3) (ls' := [.ref 147, .int p1, .int p2, .int 0, pm_dead]) (by decide +kernel) (Nat.le_of_ble_eq_true rfl) rfl h
  have h := sp_iconst (n := 0) (v := 0) (by decide +kernel) (by decide +kernel) h
  have h := sp_istore (j := 4) (ls' := [.ref 147, .int p1, .int p2, .int 0, .int 0]) (by decide +kernel) (Nat.le_of_ble_eq_true rfl) rfl h
  exact h
set_option maxRecDepth 20000 in
set_option maxHeartbeats 2000000 in
theorem U260_5 {X : pm_X} {k : Nat} {w w' : pm_W} {r : Option Value} {i1 : Int32} {i2 : Int32} {i3 : Int32} {i4 : Int32} (hS : SK w) (h : PS X (k + 1) 260 5 [.ref 147, .int i1, .int i2, .int i3, .int i4] [] w r w') : aI w 148 i1 ∧ (if (aG w 148 i1) ≤ i4 then (r = some (.int i3) ∧ w' = w) else (∃ (r1 : Option Value) (w2 : pm_W), PS X k 232 0 [.ref 147, .int i2, .int i4] [] w r1 w2 ∧ (∀ x3 : Int32, r1 = some (.int x3) → SK w2 → (if 0 < x3 then (PS X k 260 5 [.ref 147, .int i1, .int i2, .int (i3 ||| (1 <<< (i4 &&& 31))), .int (i4 + 1)] [] w2 r w') else (∃ (r4 : Option Value) (w5 : pm_W), PS X k 232 0 [.ref 147, .int i4, .int i2] [] w2 r4 w5 ∧ (∀ x6 : Int32, r4 = some (.int x6) → SK w5 → (if x6 ≤ 0 then (PS X k 260 5 [.ref 147, .int i1, .int i2, .int (i3 ||| 0), .int (i4 + 1)] [] w5 r w') else (PS X k 260 5 [.ref 147, .int i1, .int i2, .int (i3 ||| (1 <<< (i4 &&& 31))), .int (i4 + 1)] [] w5 r w')))))))) := by
  have h := sp_one (i := .iload 4) (by decide +kernel) rfl h
  have h := sp_onk (i := .aload_n 0) (by decide +kernel) rfl h
  have h := sp_getK (jj := 7) (ci := 12) (n := 0) (b := 148) (by decide +kernel) (by decide +kernel) (by decide +kernel) (by decide +kernel) (by decide) hS h
  have h := sp_onk (i := .iload_n 1) (by decide +kernel) rfl h
  obtain ⟨hi, h⟩ := sp_iald (by decide +kernel) h
  refine ⟨hi, ?_⟩
  rcases sp_icmp_ge (mi := 260) (pc := 13) (off := 40) (t := 53) (by decide +kernel) (by decide) rfl h with ⟨hc, h⟩ | ⟨hc, h⟩
  · refine ite_t hc ?_
    have h := sp_onk (i := .iload_n 3) (by decide +kernel) rfl h
    exact sp_iret (by decide +kernel) h
  · refine ite_f hc ?_
    have h := sp_onk (i := .iload_n 3) (by decide +kernel) rfl h
    have h := sp_onk (i := .aload_n 0) (by decide +kernel) rfl h
    have h := sp_onk (i := .iload_n 2) (by decide +kernel) rfl h
    have h := sp_onk (i := .iload 4) (by decide +kernel) rfl h
    obtain ⟨r1, w2, hc, h⟩ := sp_callV (jj := 181) (mj := 232) (n := 2) (v := .ref 147) (args := [.int i4, .int i2]) (ls' := [.ref 147, .int i2, .int i4]) (by decide +kernel) (by decide +kernel) rfl rfl rfl h
    refine ⟨r1, w2, hc, fun x3 er hSw2 => ?_⟩
    subst er
    have h : PS X k 260 24 [.ref 147, .int i1, .int i2, .int i3, .int i4] [.int x3, .int i3] w2 r w' := h
    rcases sp_if_gt (mi := 260) (pc := 24) (off := 13) (t := 37) (by decide +kernel) (by decide) rfl h with ⟨hc, h⟩ | ⟨hc, h⟩
    · refine ite_t hc ?_
      have h := sp_iconst (n := 1) (v := 1) (by decide +kernel) (by decide +kernel) h
      have h := sp_onk (i := .iload 4) (by decide +kernel) rfl h
      have h := sp_onk (i := .ishl) (by decide +kernel) rfl h
      have h := sp_goto (mi := 260) (pc := 41) (off := 4) (t := 45) (by decide +kernel) (by decide) rfl h
      have h := sp_onk (i := .ior) (by decide +kernel) rfl h
      have h := sp_istore_n (j := 3) (ls' := [.ref 147, .int i1, .int i2, .int (i3 ||| (1 <<< (i4 &&& 31))), .int i4]) (by decide +kernel) (Nat.le_of_ble_eq_true rfl) rfl h
      have h := sp_iinc (j := 4) (n := 1) (v := 1) (ls' := [.ref 147, .int i1, .int i2, .int (i3 ||| (1 <<< (i4 &&& 31))), .int (i4 + 1)]) (by decide +kernel) rfl (by decide +kernel) rfl h
      have h := sp_goto (mi := 260) (pc := 50) (off := (-45)) (t := 5) (by decide +kernel) (by decide) rfl h
      exact h
    · refine ite_f hc ?_
      have h := sp_onk (i := .aload_n 0) (by decide +kernel) rfl h
      have h := sp_onk (i := .iload 4) (by decide +kernel) rfl h
      have h := sp_onk (i := .iload_n 2) (by decide +kernel) rfl h
      obtain ⟨r4, w5, hc, h⟩ := sp_callV (jj := 181) (mj := 232) (n := 2) (v := .ref 147) (args := [.int i2, .int i4]) (ls' := [.ref 147, .int i4, .int i2]) (by decide +kernel) (by decide +kernel) rfl rfl rfl h
      refine ⟨r4, w5, hc, fun x6 er hSw5 => ?_⟩
      subst er
      have h : PS X k 260 34 [.ref 147, .int i1, .int i2, .int i3, .int i4] [.int x6, .int i3] w5 r w' := h
      rcases sp_if_le (mi := 260) (pc := 34) (off := 10) (t := 44) (by decide +kernel) (by decide) rfl h with ⟨hc, h⟩ | ⟨hc, h⟩
      · refine ite_t hc ?_
        have h := sp_iconst (n := 0) (v := 0) (by decide +kernel) (by decide +kernel) h
        have h := sp_onk (i := .ior) (by decide +kernel) rfl h
        have h := sp_istore_n (j := 3) (ls' := [.ref 147, .int i1, .int i2, .int (i3 ||| 0), .int i4]) (by decide +kernel) (Nat.le_of_ble_eq_true rfl) rfl h
        have h := sp_iinc (j := 4) (n := 1) (v := 1) (ls' := [.ref 147, .int i1, .int i2, .int (i3 ||| 0), .int (i4 + 1)]) (by decide +kernel) rfl (by decide +kernel) rfl h
        have h := sp_goto (mi := 260) (pc := 50) (off := (-45)) (t := 5) (by decide +kernel) (by decide) rfl h
        exact h
      · refine ite_f hc ?_
        have h := sp_iconst (n := 1) (v := 1) (by decide +kernel) (by decide +kernel) h
        have h := sp_onk (i := .iload 4) (by decide +kernel) rfl h
        have h := sp_onk (i := .ishl) (by decide +kernel) rfl h
        have h := sp_goto (mi := 260) (pc := 41) (off := 4) (t := 45) (by decide +kernel) (by decide) rfl h
        have h := sp_onk (i := .ior) (by decide +kernel) rfl h
        have h := sp_istore_n (j := 3) (ls' := [.ref 147, .int i1, .int i2, .int (i3 ||| (1 <<< (i4 &&& 31))), .int i4]) (by decide +kernel) (Nat.le_of_ble_eq_true rfl) rfl h
        have h := sp_iinc (j := 4) (n := 1) (v := 1) (ls' := [.ref 147, .int i1, .int i2, .int (i3 ||| (1 <<< (i4 &&& 31))), .int (i4 + 1)]) (by decide +kernel) rfl (by decide +kernel) rfl h
        have h := sp_goto (mi := 260) (pc := 50) (off := (-45)) (t := 5) (by decide +kernel) (by decide) rfl h
        exact h
set_option maxRecDepth 20000 in
set_option maxHeartbeats 2000000 in
theorem U261_0 {X : pm_X} {k : Nat} {w w' : pm_W} {r : Option Value} {p1 : Int32} (hS : SK w) (h : PS X (k + 1) 261 0 [.ref 147, .int p1, pm_dead, pm_dead, pm_dead, pm_dead, pm_dead, pm_dead] [] w r w') : ∃ (r1 : Option Value) (w2 : pm_W), PS X k 259 0 [.ref 147, .int p1, pm_dead, pm_dead] [] w r1 w2 ∧ (∀ x3 : Int32, r1 = some (.int x3) → SK w2 → (PS X k 261 11 [.ref 147, .int p1, .int x3, .int 0, .int 0, pm_dead, pm_dead, pm_dead] [] w2 r w')) := by
  have h := sp_one (i := .aload_n 0) (by decide +kernel) rfl h
  have h := sp_onk (i := .iload_n 1) (by decide +kernel) rfl h
  obtain ⟨r1, w2, hc, h⟩ := sp_callV (jj := 254) (mj := 259) (n := 1) (v := .ref 147) (args := [.int p1]) (ls' := [.ref 147, .int p1, pm_dead, pm_dead]) (by decide +kernel) (by decide +kernel) rfl rfl rfl h
  refine ⟨r1, w2, hc, fun x3 er hSw2 => ?_⟩
  subst er
  have h : PS X k 261 5 [.ref 147, .int p1, pm_dead, pm_dead, pm_dead, pm_dead, pm_dead, pm_dead] [.int x3] w2 r w' := h
  have h := sp_istore_n (j := 2) (ls' := [.ref 147, .int p1, .int x3, pm_dead, pm_dead, pm_dead, pm_dead, pm_dead]) (by decide +kernel) (Nat.le_of_ble_eq_true rfl) rfl h
  have h := sp_iconst (n := 0) (v := 0) (by decide +kernel) (by decide +kernel) h
  have h := sp_istore_n (j := 3) (ls' := [.ref 147, .int p1, .int x3, .int 0, pm_dead, pm_dead, pm_dead, pm_dead]) (by decide +kernel) (Nat.le_of_ble_eq_true rfl) rfl h
  have h := sp_iconst (n := 0) (v := 0) (by decide +kernel) (by decide +kernel) h
  have h := sp_istore (j := 4) (ls' := [.ref 147, .int p1, .int x3, .int 0, .int 0, pm_dead, pm_dead, pm_dead]) (by decide +kernel) (Nat.le_of_ble_eq_true rfl) rfl h
  exact h
set_option maxRecDepth 20000 in
set_option maxHeartbeats 2000000 in
theorem U261_11 {X : pm_X} {k : Nat} {w w' : pm_W} {r : Option Value} {i1 : Int32} {i2 : Int32} {i3 : Int32} {i4 : Int32} {u5 : Value} {u6 : Value} {u7 : Value} (hS : SK w) (h : PS X (k + 1) 261 11 [.ref 147, .int i1, .int i2, .int i3, .int i4, u5, u6, u7] [] w r w') : aI w 148 i1 ∧ (if (aG w 148 i1) ≤ i4 then (r = some (.int i3) ∧ w' = w) else (if ((i2 >>> (i4 &&& 31)) &&& 1) = 1 then (PS X k 261 11 [.ref 147, .int i1, .int i2, .int i3, .int (i4 + 1), u5, u6, u7] [] w r w') else (PS X k 261 47 [.ref 147, .int i1, .int i2, .int (i3 + 1), .int i4, .int (1 <<< (i4 &&& 31)), .int 0, u7] [] w r w'))) := by
  have h := sp_one (i := .iload 4) (by decide +kernel) rfl h
  have h := sp_onk (i := .aload_n 0) (by decide +kernel) rfl h
  have h := sp_getK (jj := 7) (ci := 12) (n := 0) (b := 148) (by decide +kernel) (by decide +kernel) (by decide +kernel) (by decide +kernel) (by decide) hS h
  have h := sp_onk (i := .iload_n 1) (by decide +kernel) rfl h
  obtain ⟨hi, h⟩ := sp_iald (by decide +kernel) h
  refine ⟨hi, ?_⟩
  rcases sp_icmp_ge (mi := 261) (pc := 19) (off := 99) (t := 118) (by decide +kernel) (by decide) rfl h with ⟨hc, h⟩ | ⟨hc, h⟩
  · refine ite_t hc ?_
    have h := sp_onk (i := .iload_n 3) (by decide +kernel) rfl h
    exact sp_iret (by decide +kernel) h
  · refine ite_f hc ?_
    have h := sp_onk (i := .iload_n 2) (by decide +kernel) rfl h
    have h := sp_onk (i := .iload 4) (by decide +kernel) rfl h
    have h := sp_onk (i := .ishr) (by decide +kernel) rfl h
    have h := sp_iconst (n := 1) (v := 1) (by decide +kernel) (by decide +kernel) h
    have h := sp_onk (i := .iand) (by decide +kernel) rfl h
    have h := sp_iconst (n := 1) (v := 1) (by decide +kernel) (by decide +kernel) h
    rcases sp_icmp_ne (mi := 261) (pc := 29) (off := 6) (t := 35) (by decide +kernel) (by decide) rfl h with ⟨hc, h⟩ | ⟨hc, h⟩
    · refine ite_f hc ?_
      have h := sp_iinc (j := 3) (n := 1) (v := 1) (ls' := [.ref 147, .int i1, .int i2, .int (i3 + 1), .int i4, u5, u6, u7]) (by decide +kernel) rfl (by decide +kernel) rfl h
      have h := sp_iconst (n := 1) (v := 1) (by decide +kernel) (by decide +kernel) h
      have h := sp_onk (i := .iload 4) (by decide +kernel) rfl h
      have h := sp_onk (i := .ishl) (by decide +kernel) rfl h
      have h := sp_istore (j := 5) (ls' := [.ref 147, .int i1, .int i2, .int (i3 + 1), .int i4, .int (1 <<< (i4 &&& 31)), u6, u7]) (by decide +kernel) (Nat.le_of_ble_eq_true rfl) rfl h
      have h := sp_iconst (n := 0) (v := 0) (by decide +kernel) (by decide +kernel) h
      have h := sp_istore (j := 6) (ls' := [.ref 147, .int i1, .int i2, .int (i3 + 1), .int i4, .int (1 <<< (i4 &&& 31)), .int 0, u7]) (by decide +kernel) (Nat.le_of_ble_eq_true rfl) rfl h
      exact h
    · refine ite_t (Classical.not_not.mp hc) ?_
      have h := sp_goto (mi := 261) (pc := 32) (off := 80) (t := 112) (by decide +kernel) (by decide) rfl h
      have h := sp_iinc (j := 4) (n := 1) (v := 1) (ls' := [.ref 147, .int i1, .int i2, .int i3, .int (i4 + 1), u5, u6, u7]) (by decide +kernel) rfl (by decide +kernel) rfl h
      have h := sp_goto (mi := 261) (pc := 115) (off := (-104)) (t := 11) (by decide +kernel) (by decide) rfl h
      exact h
set_option maxRecDepth 20000 in
set_option maxHeartbeats 2000000 in
theorem U261_47 {X : pm_X} {k : Nat} {w w' : pm_W} {r : Option Value} {i1 : Int32} {i2 : Int32} {i3 : Int32} {i4 : Int32} {i5 : Int32} {i6 : Int32} {u7 : Value} (hS : SK w) (h : PS X (k + 1) 261 47 [.ref 147, .int i1, .int i2, .int i3, .int i4, .int i5, .int i6, u7] [] w r w') : if 9 ≤ i6 then (PS X k 261 11 [.ref 147, .int i1, .int (i2 ||| i5), .int i3, .int (i4 + 1), .int i5, .int i6, u7] [] w r w') else (PS X k 261 57 [.ref 147, .int i1, .int i2, .int i3, .int i4, .int i5, .int i6, .int 0] [] w r w') := by
  have h := sp_one (i := .iload 6) (by decide +kernel) rfl h
  have h := sp_bipush (n := 9) (v := 9) (by decide +kernel) (by decide +kernel) h
  rcases sp_icmp_ge (mi := 261) (pc := 51) (off := 56) (t := 107) (by decide +kernel) (by decide) rfl h with ⟨hc, h⟩ | ⟨hc, h⟩
  · refine ite_t hc ?_
    have h := sp_onk (i := .iload_n 2) (by decide +kernel) rfl h
    have h := sp_onk (i := .iload 5) (by decide +kernel) rfl h
    have h := sp_onk (i := .ior) (by decide +kernel) rfl h
    have h := sp_istore_n (j := 2) (ls' := [.ref 147, .int i1, .int (i2 ||| i5), .int i3, .int i4, .int i5, .int i6, u7]) (by decide +kernel) (Nat.le_of_ble_eq_true rfl) rfl h
    have h := sp_iinc (j := 4) (n := 1) (v := 1) (ls' := [.ref 147, .int i1, .int (i2 ||| i5), .int i3, .int (i4 + 1), .int i5, .int i6, u7]) (by decide +kernel) rfl (by decide +kernel) rfl h
    have h := sp_goto (mi := 261) (pc := 115) (off := (-104)) (t := 11) (by decide +kernel) (by decide) rfl h
    exact h
  · refine ite_f hc ?_
    have h := sp_iconst (n := 0) (v := 0) (by decide +kernel) (by decide +kernel) h
    have h := sp_istore (j := 7) (ls' := [.ref 147, .int i1, .int i2, .int i3, .int i4, .int i5, .int i6, .int 0]) (by decide +kernel) (Nat.le_of_ble_eq_true rfl) rfl h
    exact h
set_option maxRecDepth 20000 in
set_option maxHeartbeats 2000000 in
theorem U261_57 {X : pm_X} {k : Nat} {w w' : pm_W} {r : Option Value} {i1 : Int32} {i2 : Int32} {i3 : Int32} {i4 : Int32} {i5 : Int32} {i6 : Int32} {i7 : Int32} (hS : SK w) (h : PS X (k + 1) 261 57 [.ref 147, .int i1, .int i2, .int i3, .int i4, .int i5, .int i6, .int i7] [] w r w') : aI w 148 i1 ∧ (if (aG w 148 i1) ≤ i7 then (PS X k 261 47 [.ref 147, .int i1, .int i2, .int i3, .int i4, .int i5, .int (i6 + 1), .int i7] [] w r w') else (if ((i5 >>> (i7 &&& 31)) &&& 1) = 1 then (∃ (r1 : Option Value) (w2 : pm_W), PS X k 260 0 [.ref 147, .int i1, .int i7, pm_dead, pm_dead] [] w r1 w2 ∧ (∀ x3 : Int32, r1 = some (.int x3) → SK w2 → (PS X k 261 57 [.ref 147, .int i1, .int i2, .int i3, .int i4, .int (i5 ||| x3), .int i6, .int (i7 + 1)] [] w2 r w'))) else (PS X k 261 57 [.ref 147, .int i1, .int i2, .int i3, .int i4, .int (i5 ||| 0), .int i6, .int (i7 + 1)] [] w r w'))) := by
  have h := sp_one (i := .iload 7) (by decide +kernel) rfl h
  have h := sp_onk (i := .aload_n 0) (by decide +kernel) rfl h
  have h := sp_getK (jj := 7) (ci := 12) (n := 0) (b := 148) (by decide +kernel) (by decide +kernel) (by decide +kernel) (by decide +kernel) (by decide) hS h
  have h := sp_onk (i := .iload_n 1) (by decide +kernel) rfl h
  obtain ⟨hi, h⟩ := sp_iald (by decide +kernel) h
  refine ⟨hi, ?_⟩
  rcases sp_icmp_ge (mi := 261) (pc := 65) (off := 36) (t := 101) (by decide +kernel) (by decide) rfl h with ⟨hc, h⟩ | ⟨hc, h⟩
  · refine ite_t hc ?_
    have h := sp_iinc (j := 6) (n := 1) (v := 1) (ls' := [.ref 147, .int i1, .int i2, .int i3, .int i4, .int i5, .int (i6 + 1), .int i7]) (by decide +kernel) rfl (by decide +kernel) rfl h
    have h := sp_goto (mi := 261) (pc := 104) (off := (-57)) (t := 47) (by decide +kernel) (by decide) rfl h
    exact h
  · refine ite_f hc ?_
    have h := sp_onk (i := .iload 5) (by decide +kernel) rfl h
    have h := sp_onk (i := .iload 5) (by decide +kernel) rfl h
    have h := sp_onk (i := .iload 7) (by decide +kernel) rfl h
    have h := sp_onk (i := .ishr) (by decide +kernel) rfl h
    have h := sp_iconst (n := 1) (v := 1) (by decide +kernel) (by decide +kernel) h
    have h := sp_onk (i := .iand) (by decide +kernel) rfl h
    have h := sp_iconst (n := 1) (v := 1) (by decide +kernel) (by decide +kernel) h
    rcases sp_icmp_ne (mi := 261) (pc := 78) (off := 13) (t := 91) (by decide +kernel) (by decide) rfl h with ⟨hc, h⟩ | ⟨hc, h⟩
    · refine ite_f hc ?_
      have h := sp_iconst (n := 0) (v := 0) (by decide +kernel) (by decide +kernel) h
      have h := sp_onk (i := .ior) (by decide +kernel) rfl h
      have h := sp_istore (j := 5) (ls' := [.ref 147, .int i1, .int i2, .int i3, .int i4, .int (i5 ||| 0), .int i6, .int i7]) (by decide +kernel) (Nat.le_of_ble_eq_true rfl) rfl h
      have h := sp_iinc (j := 7) (n := 1) (v := 1) (ls' := [.ref 147, .int i1, .int i2, .int i3, .int i4, .int (i5 ||| 0), .int i6, .int (i7 + 1)]) (by decide +kernel) rfl (by decide +kernel) rfl h
      have h := sp_goto (mi := 261) (pc := 98) (off := (-41)) (t := 57) (by decide +kernel) (by decide) rfl h
      exact h
    · refine ite_t (Classical.not_not.mp hc) ?_
      have h := sp_onk (i := .aload_n 0) (by decide +kernel) rfl h
      have h := sp_onk (i := .iload_n 1) (by decide +kernel) rfl h
      have h := sp_onk (i := .iload 7) (by decide +kernel) rfl h
      obtain ⟨r1, w2, hc, h⟩ := sp_callV (jj := 251) (mj := 260) (n := 2) (v := .ref 147) (args := [.int i7, .int i1]) (ls' := [.ref 147, .int i1, .int i7, pm_dead, pm_dead]) (by decide +kernel) (by decide +kernel) rfl rfl rfl h
      refine ⟨r1, w2, hc, fun x3 er hSw2 => ?_⟩
      subst er
      have h : PS X k 261 88 [.ref 147, .int i1, .int i2, .int i3, .int i4, .int i5, .int i6, .int i7] [.int x3, .int i5] w2 r w' := h
      have h := sp_goto (mi := 261) (pc := 88) (off := 4) (t := 92) (by decide +kernel) (by decide) rfl h
      have h := sp_onk (i := .ior) (by decide +kernel) rfl h
      have h := sp_istore (j := 5) (ls' := [.ref 147, .int i1, .int i2, .int i3, .int i4, .int (i5 ||| x3), .int i6, .int i7]) (by decide +kernel) (Nat.le_of_ble_eq_true rfl) rfl h
      have h := sp_iinc (j := 7) (n := 1) (v := 1) (ls' := [.ref 147, .int i1, .int i2, .int i3, .int i4, .int (i5 ||| x3), .int i6, .int (i7 + 1)]) (by decide +kernel) rfl (by decide +kernel) rfl h
      have h := sp_goto (mi := 261) (pc := 98) (off := (-41)) (t := 57) (by decide +kernel) (by decide) rfl h
      exact h
set_option maxRecDepth 20000 in
set_option maxHeartbeats 2000000 in
theorem U262_0 {X : pm_X} {k : Nat} {w w' : pm_W} {r : Option Value} {p1 : Int32} (hS : SK w) (h : PS X (k + 1) 262 0 [.ref 147, .int p1, pm_dead, pm_dead, pm_dead, pm_dead, pm_dead] [] w r w') : PS X k 262 8 [.ref 147, .int p1, .int 0, .int 1000000, .int 0, pm_dead, pm_dead] [] w r w' := by
  have h := sp_iconst1 (n := 0) (v := 0) (by decide +kernel) (by decide +kernel) h
  have h := sp_istore_n (j := 2) (ls' := [.ref 147, .int p1, .int 0, pm_dead, pm_dead, pm_dead, pm_dead]) (by decide +kernel) (Nat.le_of_ble_eq_true rfl) rfl h
  have h := sp_ldc (j := 243) (v := 1000000) (by decide +kernel) (by decide +kernel) h
  have h := sp_istore_n (j := 3) (ls' := [.ref 147, .int p1, .int 0, .int 1000000, pm_dead, pm_dead, pm_dead]) (by decide +kernel) (Nat.le_of_ble_eq_true rfl) rfl h
  have h := sp_iconst (n := 0) (v := 0) (by decide +kernel) (by decide +kernel) h
  have h := sp_istore (j := 4) (ls' := [.ref 147, .int p1, .int 0, .int 1000000, .int 0, pm_dead, pm_dead]) (by decide +kernel) (Nat.le_of_ble_eq_true rfl) rfl h
  exact h
set_option maxRecDepth 20000 in
set_option maxHeartbeats 2000000 in
theorem U262_8 {X : pm_X} {k : Nat} {w w' : pm_W} {r : Option Value} {i1 : Int32} {i2 : Int32} {i3 : Int32} {i4 : Int32} (hS : SK w) (h : PS X (k + 1) 262 8 [.ref 147, .int i1, .int i2, .int i3, .int i4, pm_dead, pm_dead] [] w r w') : if 81 ≤ i4 then (PS X k 262 38 [.ref 147, .int i1, .int i2, .int i3, .int 0, pm_dead, pm_dead] [] w r w') else (aI w 152 i4 ∧ (aI w 156 i4 ∧ (∀ w1 : pm_W, w1 = aS w 156 i4 (aG w 152 i4) → (PS X k 262 8 [.ref 147, .int i1, .int i2, .int i3, .int (i4 + 1), pm_dead, pm_dead] [] w1 r w')))) := by
  have h := sp_one (i := .iload 4) (by decide +kernel) rfl h
  have h := sp_bipush (n := 81) (v := 81) (by decide +kernel) (by decide +kernel) h
  rcases sp_icmp_ge (mi := 262) (pc := 12) (off := 23) (t := 35) (by decide +kernel) (by decide) rfl h with ⟨hc, h⟩ | ⟨hc, h⟩
  · refine ite_t hc ?_
    have h := sp_iconst (n := 0) (v := 0) (by decide +kernel) (by decide +kernel) h
    have h := sp_istore (j := 4) (ls' := [.ref 147, .int i1, .int i2, .int i3, .int 0, pm_dead, pm_dead]) (by decide +kernel) (Nat.le_of_ble_eq_true rfl) rfl h
    exact h
  · refine ite_f hc ?_
    have h := sp_onk (i := .aload_n 0) (by decide +kernel) rfl h
    have h := sp_getK (jj := 35) (ci := 12) (n := 19) (b := 156) (by decide +kernel) (by decide +kernel) (by decide +kernel) (by decide +kernel) (by decide) hS h
    have h := sp_onk (i := .iload 4) (by decide +kernel) rfl h
    have h := sp_onk (i := .aload_n 0) (by decide +kernel) rfl h
    have h := sp_getK (jj := 23) (ci := 12) (n := 12) (b := 152) (by decide +kernel) (by decide +kernel) (by decide +kernel) (by decide +kernel) (by decide) hS h
    have h := sp_onk (i := .iload 4) (by decide +kernel) rfl h
    obtain ⟨hi, h⟩ := sp_iald (by decide +kernel) h
    refine ⟨hi, ?_⟩
    obtain ⟨hi, h⟩ := sp_iast (by decide +kernel) h
    refine ⟨hi, ?_⟩
    intro w1 ew1
    rw [← ew1] at h
    have hSw1 : SK w1 := by rw [ew1]; exact SK_aS hS
    have h := sp_iinc (j := 4) (n := 1) (v := 1) (ls' := [.ref 147, .int i1, .int i2, .int i3, .int (i4 + 1), pm_dead, pm_dead]) (by decide +kernel) rfl (by decide +kernel) rfl h
    have h := sp_goto (mi := 262) (pc := 32) (off := (-24)) (t := 8) (by decide +kernel) (by decide) rfl h
    exact h
set_option maxRecDepth 20000 in
set_option maxHeartbeats 2000000 in
theorem U262_38 {X : pm_X} {k : Nat} {w w' : pm_W} {r : Option Value} {i1 : Int32} {i2 : Int32} {i3 : Int32} {i4 : Int32} (hS : SK w) (h : PS X (k + 1) 262 38 [.ref 147, .int i1, .int i2, .int i3, .int i4, pm_dead, pm_dead] [] w r w') : if 400 ≤ i4 then (PS X k 262 69 [.ref 147, .int i1, .int i2, .int i3, .int 0, pm_dead, pm_dead] [] w r w') else (aI w 153 i4 ∧ (aI w 157 i4 ∧ (∀ w1 : pm_W, w1 = aS w 157 i4 (aG w 153 i4) → (PS X k 262 38 [.ref 147, .int i1, .int i2, .int i3, .int (i4 + 1), pm_dead, pm_dead] [] w1 r w')))) := by
  have h := sp_one (i := .iload 4) (by decide +kernel) rfl h
  have h := sp_sipush (n := 400) (v := 400) (by decide +kernel) (by decide +kernel) h
  rcases sp_icmp_ge (mi := 262) (pc := 43) (off := 23) (t := 66) (by decide +kernel) (by decide) rfl h with ⟨hc, h⟩ | ⟨hc, h⟩
  · refine ite_t hc ?_
    have h := sp_iconst (n := 0) (v := 0) (by decide +kernel) (by decide +kernel) h
    have h := sp_istore (j := 4) (ls' := [.ref 147, .int i1, .int i2, .int i3, .int 0, pm_dead, pm_dead]) (by decide +kernel) (Nat.le_of_ble_eq_true rfl) rfl h
    exact h
  · refine ite_f hc ?_
    have h := sp_onk (i := .aload_n 0) (by decide +kernel) rfl h
    have h := sp_getK (jj := 38) (ci := 12) (n := 20) (b := 157) (by decide +kernel) (by decide +kernel) (by decide +kernel) (by decide +kernel) (by decide) hS h
    have h := sp_onk (i := .iload 4) (by decide +kernel) rfl h
    have h := sp_onk (i := .aload_n 0) (by decide +kernel) rfl h
    have h := sp_getK (jj := 26) (ci := 12) (n := 13) (b := 153) (by decide +kernel) (by decide +kernel) (by decide +kernel) (by decide +kernel) (by decide) hS h
    have h := sp_onk (i := .iload 4) (by decide +kernel) rfl h
    obtain ⟨hi, h⟩ := sp_iald (by decide +kernel) h
    refine ⟨hi, ?_⟩
    obtain ⟨hi, h⟩ := sp_iast (by decide +kernel) h
    refine ⟨hi, ?_⟩
    intro w1 ew1
    rw [← ew1] at h
    have hSw1 : SK w1 := by rw [ew1]; exact SK_aS hS
    have h := sp_iinc (j := 4) (n := 1) (v := 1) (ls' := [.ref 147, .int i1, .int i2, .int i3, .int (i4 + 1), pm_dead, pm_dead]) (by decide +kernel) rfl (by decide +kernel) rfl h
    have h := sp_goto (mi := 262) (pc := 63) (off := (-25)) (t := 38) (by decide +kernel) (by decide) rfl h
    exact h
set_option maxRecDepth 20000 in
set_option maxHeartbeats 2000000 in
theorem U262_69 {X : pm_X} {k : Nat} {w w' : pm_W} {r : Option Value} {i1 : Int32} {i2 : Int32} {i3 : Int32} {i4 : Int32} {u5 : Value} {u6 : Value} (hS : SK w) (h : PS X (k + 1) 262 69 [.ref 147, .int i1, .int i2, .int i3, .int i4, u5, u6] [] w r w') : aI w 148 i1 ∧ (if (aG w 148 i1) ≤ i4 then (r = some (.int i2) ∧ w' = w) else (∃ (r1 : Option Value) (w2 : pm_W), PS X k 238 0 [.ref 147, .int i4, pm_dead] [] w r1 w2 ∧ (r1 = none → SK w2 → (∃ (r3 : Option Value) (w4 : pm_W), PS X k 252 0 [.ref 147, pm_dead, pm_dead] [] w2 r3 w4 ∧ (∀ x5 : Int32, r3 = some (.int x5) → SK w4 → (if i3 ≤ x5 then (if i3 ≤ x5 then (PS X k 262 117 [.ref 147, .int i1, .int i2, .int i3, .int i4, .int x5, .int 0] [] w4 r w') else (PS X k 262 117 [.ref 147, .int i1, .int i2, .int x5, .int i4, .int x5, .int 0] [] w4 r w')) else (if i3 ≤ x5 then (PS X k 262 117 [.ref 147, .int i1, .int i4, .int i3, .int i4, .int x5, .int 0] [] w4 r w') else (PS X k 262 117 [.ref 147, .int i1, .int i4, .int x5, .int i4, .int x5, .int 0] [] w4 r w')))))))) := by
  have h := sp_one (i := .iload 4) (by decide +kernel) rfl h
  have h := sp_onk (i := .aload_n 0) (by decide +kernel) rfl h
  have h := sp_getK (jj := 7) (ci := 12) (n := 0) (b := 148) (by decide +kernel) (by decide +kernel) (by decide +kernel) (by decide +kernel) (by decide) hS h
  have h := sp_onk (i := .iload_n 1) (by decide +kernel) rfl h
  obtain ⟨hi, h⟩ := sp_iald (by decide +kernel) h
  refine ⟨hi, ?_⟩
  rcases sp_icmp_ge (mi := 262) (pc := 77) (off := 104) (t := 181) (by decide +kernel) (by decide) rfl h with ⟨hc, h⟩ | ⟨hc, h⟩
  · refine ite_t hc ?_
    have h := sp_onk (i := .iload_n 2) (by decide +kernel) rfl h
    exact sp_iret (by decide +kernel) h
  · refine ite_f hc ?_
    have h := sp_onk (i := .aload_n 0) (by decide +kernel) rfl h
    have h := sp_onk (i := .iload 4) (by decide +kernel) rfl h
    obtain ⟨r1, w2, hc, h⟩ := sp_callV (jj := 205) (mj := 238) (n := 1) (v := .ref 147) (args := [.int i4]) (ls' := [.ref 147, .int i4, pm_dead]) (by decide +kernel) (by decide +kernel) rfl rfl rfl h
    refine ⟨r1, w2, hc, fun er hSw2 => ?_⟩
    subst er
    have h : PS X k 262 86 [.ref 147, .int i1, .int i2, .int i3, .int i4, u5, u6] [] w2 r w' := h
    have h := sp_onk (i := .aload_n 0) (by decide +kernel) rfl h
    obtain ⟨r3, w4, hc, h⟩ := sp_callV (jj := 244) (mj := 252) (n := 0) (v := .ref 147) (args := []) (ls' := [.ref 147, pm_dead, pm_dead]) (by decide +kernel) (by decide +kernel) rfl rfl rfl h
    refine ⟨r3, w4, hc, fun x5 er hSw4 => ?_⟩
    subst er
    have h : PS X k 262 90 [.ref 147, .int i1, .int i2, .int i3, .int i4, u5, u6] [.int x5] w4 r w' := h
    have h := sp_istore (j := 5) (ls' := [.ref 147, .int i1, .int i2, .int i3, .int i4, .int x5, u6]) (by decide +kernel) (Nat.le_of_ble_eq_true rfl) rfl h
    have h := sp_onk (i := .iload 5) (by decide +kernel) rfl h
    have h := sp_onk (i := .iload_n 3) (by decide +kernel) rfl h
    rcases sp_icmp_ge (mi := 262) (pc := 95) (off := 6) (t := 101) (by decide +kernel) (by decide) rfl h with ⟨hc, h⟩ | ⟨hc, h⟩
    · refine ite_t hc ?_
      have h := sp_onk (i := .iload 5) (by decide +kernel) rfl h
      have h := sp_onk (i := .iload_n 3) (by decide +kernel) rfl h
      rcases sp_icmp_ge (mi := 262) (pc := 104) (off := 8) (t := 112) (by decide +kernel) (by decide) rfl h with ⟨hc, h⟩ | ⟨hc, h⟩
      · refine ite_t hc ?_
        have h := sp_onk (i := .iload_n 3) (by decide +kernel) rfl h
        have h := sp_istore_n (j := 3) (ls' := [.ref 147, .int i1, .int i2, .int i3, .int i4, .int x5, u6]) (by decide +kernel) (Nat.le_of_ble_eq_true rfl) rfl h
        have h := sp_iconst (n := 0) (v := 0) (by decide +kernel) (by decide +kernel) h
        have h := sp_istore (j := 6) (ls' := [.ref 147, .int i1, .int i2, .int i3, .int i4, .int x5, .int 0]) (by decide +kernel) (Nat.le_of_ble_eq_true rfl) rfl h
        exact h
      · refine ite_f hc ?_
        have h := sp_onk (i := .iload 5) (by decide +kernel) rfl h
        have h := sp_goto (mi := 262) (pc := 109) (off := 4) (t := 113) (by decide +kernel) (by decide) rfl h
        have h := sp_istore_n (j := 3) (ls' := [.ref 147, .int i1, .int i2, .int x5, .int i4, .int x5, u6]) (by decide +kernel) (Nat.le_of_ble_eq_true rfl) rfl h
        have h := sp_iconst (n := 0) (v := 0) (by decide +kernel) (by decide +kernel) h
        have h := sp_istore (j := 6) (ls' := [.ref 147, .int i1, .int i2, .int x5, .int i4, .int x5, .int 0]) (by decide +kernel) (Nat.le_of_ble_eq_true rfl) rfl h
        exact h
    · refine ite_f hc ?_
      have h := sp_onk (i := .iload 4) (by decide +kernel) rfl h
      have h := sp_istore_n (j := 2) (ls' := [.ref 147, .int i1, .int i4, .int i3, .int i4, .int x5, u6]) (by decide +kernel) (Nat.le_of_ble_eq_true rfl) rfl h
      have h := sp_onk (i := .iload 5) (by decide +kernel) rfl h
      have h := sp_onk (i := .iload_n 3) (by decide +kernel) rfl h
      rcases sp_icmp_ge (mi := 262) (pc := 104) (off := 8) (t := 112) (by decide +kernel) (by decide) rfl h with ⟨hc, h⟩ | ⟨hc, h⟩
      · refine ite_t hc ?_
        have h := sp_onk (i := .iload_n 3) (by decide +kernel) rfl h
        have h := sp_istore_n (j := 3) (ls' := [.ref 147, .int i1, .int i4, .int i3, .int i4, .int x5, u6]) (by decide +kernel) (Nat.le_of_ble_eq_true rfl) rfl h
        have h := sp_iconst (n := 0) (v := 0) (by decide +kernel) (by decide +kernel) h
        have h := sp_istore (j := 6) (ls' := [.ref 147, .int i1, .int i4, .int i3, .int i4, .int x5, .int 0]) (by decide +kernel) (Nat.le_of_ble_eq_true rfl) rfl h
        exact h
      · refine ite_f hc ?_
        have h := sp_onk (i := .iload 5) (by decide +kernel) rfl h
        have h := sp_goto (mi := 262) (pc := 109) (off := 4) (t := 113) (by decide +kernel) (by decide) rfl h
        have h := sp_istore_n (j := 3) (ls' := [.ref 147, .int i1, .int i4, .int x5, .int i4, .int x5, u6]) (by decide +kernel) (Nat.le_of_ble_eq_true rfl) rfl h
        have h := sp_iconst (n := 0) (v := 0) (by decide +kernel) (by decide +kernel) h
        have h := sp_istore (j := 6) (ls' := [.ref 147, .int i1, .int i4, .int x5, .int i4, .int x5, .int 0]) (by decide +kernel) (Nat.le_of_ble_eq_true rfl) rfl h
        exact h
set_option maxRecDepth 20000 in
set_option maxHeartbeats 2000000 in
theorem U262_117 {X : pm_X} {k : Nat} {w w' : pm_W} {r : Option Value} {i1 : Int32} {i2 : Int32} {i3 : Int32} {i4 : Int32} {i5 : Int32} {i6 : Int32} (hS : SK w) (h : PS X (k + 1) 262 117 [.ref 147, .int i1, .int i2, .int i3, .int i4, .int i5, .int i6] [] w r w') : if 81 ≤ i6 then (PS X k 262 147 [.ref 147, .int i1, .int i2, .int i3, .int i4, .int i5, .int 0] [] w r w') else (aI w 156 i6 ∧ (aI w 152 i6 ∧ (∀ w1 : pm_W, w1 = aS w 152 i6 (aG w 156 i6) → (PS X k 262 117 [.ref 147, .int i1, .int i2, .int i3, .int i4, .int i5, .int (i6 + 1)] [] w1 r w')))) := by
  have h := sp_one (i := .iload 6) (by decide +kernel) rfl h
  have h := sp_bipush (n := 81) (v := 81) (by decide +kernel) (by decide +kernel) h
  rcases sp_icmp_ge (mi := 262) (pc := 121) (off := 23) (t := 144) (by decide +kernel) (by decide) rfl h with ⟨hc, h⟩ | ⟨hc, h⟩
  · refine ite_t hc ?_
    have h := sp_iconst (n := 0) (v := 0) (by decide +kernel) (by decide +kernel) h
    have h := sp_istore (j := 6) (ls' := [.ref 147, .int i1, .int i2, .int i3, .int i4, .int i5, .int 0]) (by decide +kernel) (Nat.le_of_ble_eq_true rfl) rfl h
    exact h
  · refine ite_f hc ?_
    have h := sp_onk (i := .aload_n 0) (by decide +kernel) rfl h
    have h := sp_getK (jj := 23) (ci := 12) (n := 12) (b := 152) (by decide +kernel) (by decide +kernel) (by decide +kernel) (by decide +kernel) (by decide) hS h
    have h := sp_onk (i := .iload 6) (by decide +kernel) rfl h
    have h := sp_onk (i := .aload_n 0) (by decide +kernel) rfl h
    have h := sp_getK (jj := 35) (ci := 12) (n := 19) (b := 156) (by decide +kernel) (by decide +kernel) (by decide +kernel) (by decide +kernel) (by decide) hS h
    have h := sp_onk (i := .iload 6) (by decide +kernel) rfl h
    obtain ⟨hi, h⟩ := sp_iald (by decide +kernel) h
    refine ⟨hi, ?_⟩
    obtain ⟨hi, h⟩ := sp_iast (by decide +kernel) h
    refine ⟨hi, ?_⟩
    intro w1 ew1
    rw [← ew1] at h
    have hSw1 : SK w1 := by rw [ew1]; exact SK_aS hS
    have h := sp_iinc (j := 6) (n := 1) (v := 1) (ls' := [.ref 147, .int i1, .int i2, .int i3, .int i4, .int i5, .int (i6 + 1)]) (by decide +kernel) rfl (by decide +kernel) rfl h
    have h := sp_goto (mi := 262) (pc := 141) (off := (-24)) (t := 117) (by decide +kernel) (by decide) rfl h
    exact h
set_option maxRecDepth 20000 in
set_option maxHeartbeats 2000000 in
theorem U262_147 {X : pm_X} {k : Nat} {w w' : pm_W} {r : Option Value} {i1 : Int32} {i2 : Int32} {i3 : Int32} {i4 : Int32} {i5 : Int32} {i6 : Int32} (hS : SK w) (h : PS X (k + 1) 262 147 [.ref 147, .int i1, .int i2, .int i3, .int i4, .int i5, .int i6] [] w r w') : if 400 ≤ i6 then (PS X k 262 69 [.ref 147, .int i1, .int i2, .int i3, .int (i4 + 1), .int i5, .int i6] [] w r w') else (aI w 157 i6 ∧ (aI w 153 i6 ∧ (∀ w1 : pm_W, w1 = aS w 153 i6 (aG w 157 i6) → (PS X k 262 147 [.ref 147, .int i1, .int i2, .int i3, .int i4, .int i5, .int (i6 + 1)] [] w1 r w')))) := by
  have h := sp_one (i := .iload 6) (by decide +kernel) rfl h
  have h := sp_sipush (n := 400) (v := 400) (by decide +kernel) (by decide +kernel) h
  rcases sp_icmp_ge (mi := 262) (pc := 152) (off := 23) (t := 175) (by decide +kernel) (by decide) rfl h with ⟨hc, h⟩ | ⟨hc, h⟩
  · refine ite_t hc ?_
    have h := sp_iinc (j := 4) (n := 1) (v := 1) (ls' := [.ref 147, .int i1, .int i2, .int i3, .int (i4 + 1), .int i5, .int i6]) (by decide +kernel) rfl (by decide +kernel) rfl h
    have h := sp_goto (mi := 262) (pc := 178) (off := (-109)) (t := 69) (by decide +kernel) (by decide) rfl h
    exact h
  · refine ite_f hc ?_
    have h := sp_onk (i := .aload_n 0) (by decide +kernel) rfl h
    have h := sp_getK (jj := 26) (ci := 12) (n := 13) (b := 153) (by decide +kernel) (by decide +kernel) (by decide +kernel) (by decide +kernel) (by decide) hS h
    have h := sp_onk (i := .iload 6) (by decide +kernel) rfl h
    have h := sp_onk (i := .aload_n 0) (by decide +kernel) rfl h
    have h := sp_getK (jj := 38) (ci := 12) (n := 20) (b := 157) (by decide +kernel) (by decide +kernel) (by decide +kernel) (by decide +kernel) (by decide) hS h
    have h := sp_onk (i := .iload 6) (by decide +kernel) rfl h
    obtain ⟨hi, h⟩ := sp_iald (by decide +kernel) h
    refine ⟨hi, ?_⟩
    obtain ⟨hi, h⟩ := sp_iast (by decide +kernel) h
    refine ⟨hi, ?_⟩
    intro w1 ew1
    rw [← ew1] at h
    have hSw1 : SK w1 := by rw [ew1]; exact SK_aS hS
    have h := sp_iinc (j := 6) (n := 1) (v := 1) (ls' := [.ref 147, .int i1, .int i2, .int i3, .int i4, .int i5, .int (i6 + 1)]) (by decide +kernel) rfl (by decide +kernel) rfl h
    have h := sp_goto (mi := 262) (pc := 172) (off := (-25)) (t := 147) (by decide +kernel) (by decide) rfl h
    exact h
set_option maxRecDepth 20000 in
set_option maxHeartbeats 2000000 in
theorem U269_0 {X : pm_X} {k : Nat} {w w' : pm_W} {r : Option Value} {p1 : Int32} {p2 : Int32} {p3 : Int32} (hS : SK w) (h : PS X (k + 1) 269 0 [.ref 147, .int p1, .int p2, .int p3, pm_dead, pm_dead] [] w r w') : PS X k 269 6 [.ref 147, .int p1, .int p2, .int p3, .int 1, .int 0] [] w r w' := by
  have h := sp_iconst1 (n := 1) (v := 1) (by decide +kernel) (by decide +kernel) h
  have h := sp_istore (j := 4) (ls' := [.ref 147, .int p1, .int p2, .int p3, .int 1, pm_dead]) (by decide +kernel) (Nat.le_of_ble_eq_true rfl) rfl h
  have h := sp_iconst (n := 0) (v := 0) (by decide +kernel) (by decide +kernel) h
  have h := sp_istore (j := 5) (ls' := [.ref 147, .int p1, .int p2, .int p3, .int 1, .int 0]) (by decide +kernel) (Nat.le_of_ble_eq_true rfl) rfl h
  exact h
set_option maxRecDepth 20000 in
set_option maxHeartbeats 2000000 in
theorem U269_6 {X : pm_X} {k : Nat} {w w' : pm_W} {r : Option Value} {i1 : Int32} {i2 : Int32} {i3 : Int32} {i4 : Int32} {i5 : Int32} (hS : SK w) (h : PS X (k + 1) 269 6 [.ref 147, .int i1, .int i2, .int i3, .int i4, .int i5] [] w r w') : if i2 ≤ i5 then (r = some (.int i4) ∧ w' = w) else (if i4 = 0 then (r = some (.int i4) ∧ w' = w) else (aI w 158 i5 ∧ (aI w 158 ((i5 + 1) - (i5 + 1) / i2 * i2) ∧ (∃ (r1 : Option Value) (w2 : pm_W), PS X k 231 0 [.ref 147, .int i1, .int (aG w 158 i5), .int (aG w 158 ((i5 + 1) - (i5 + 1) / i2 * i2)), pm_dead] [] w r1 w2 ∧ (∀ x3 : Int32, r1 = some (.int x3) → SK w2 → (if x3 < i3 then (PS X k 269 6 [.ref 147, .int i1, .int i2, .int i3, .int 0, .int (i5 + 1)] [] w2 r w') else (PS X k 269 6 [.ref 147, .int i1, .int i2, .int i3, .int 1, .int (i5 + 1)] [] w2 r w'))))))) := by
  have h := sp_one (i := .iload 5) (by decide +kernel) rfl h
  have h := sp_onk (i := .iload_n 2) (by decide +kernel) rfl h
  rcases sp_icmp_ge (mi := 269) (pc := 9) (off := 48) (t := 57) (by decide +kernel) (by decide) rfl h with ⟨hc, h⟩ | ⟨hc, h⟩
  · refine ite_t hc ?_
    have h := sp_onk (i := .iload 4) (by decide +kernel) rfl h
    exact sp_iret (by decide +kernel) h
  · refine ite_f hc ?_
    have h := sp_onk (i := .iload 4) (by decide +kernel) rfl h
    rcases sp_if_eq (mi := 269) (pc := 14) (off := 43) (t := 57) (by decide +kernel) (by decide) rfl h with ⟨hc, h⟩ | ⟨hc, h⟩
    · refine ite_t hc ?_
      have h := sp_onk (i := .iload 4) (by decide +kernel) rfl h
      exact sp_iret (by decide +kernel) h
    · refine ite_f hc ?_
      have h := sp_onk (i := .aload_n 0) (by decide +kernel) rfl h
      have h := sp_onk (i := .iload_n 1) (by decide +kernel) rfl h
      have h := sp_onk (i := .aload_n 0) (by decide +kernel) rfl h
      have h := sp_getK (jj := 41) (ci := 12) (n := 21) (b := 158) (by decide +kernel) (by decide +kernel) (by decide +kernel) (by decide +kernel) (by decide) hS h
      have h := sp_onk (i := .iload 5) (by decide +kernel) rfl h
      obtain ⟨hi, h⟩ := sp_iald (by decide +kernel) h
      refine ⟨hi, ?_⟩
      have h := sp_onk (i := .aload_n 0) (by decide +kernel) rfl h
      have h := sp_getK (jj := 41) (ci := 12) (n := 21) (b := 158) (by decide +kernel) (by decide +kernel) (by decide +kernel) (by decide +kernel) (by decide) hS h
      have h := sp_onk (i := .iload 5) (by decide +kernel) rfl h
      have h := sp_iconst (n := 1) (v := 1) (by decide +kernel) (by decide +kernel) h
      have h := sp_onk (i := .iadd) (by decide +kernel) rfl h
      have h := sp_onk (i := .iload_n 2) (by decide +kernel) rfl h
      have h := sp_irem (by decide +kernel) h
      obtain ⟨hi, h⟩ := sp_iald (by decide +kernel) h
      refine ⟨hi, ?_⟩
      obtain ⟨r1, w2, hc, h⟩ := sp_callV (jj := 199) (mj := 231) (n := 3) (v := .ref 147) (args := [.int (aG w 158 ((i5 + 1) - (i5 + 1) / i2 * i2)), .int (aG w 158 i5), .int i1]) (ls' := [.ref 147, .int i1, .int (aG w 158 i5), .int (aG w 158 ((i5 + 1) - (i5 + 1) / i2 * i2)), pm_dead]) (by decide +kernel) (by decide +kernel) rfl rfl rfl h
      refine ⟨r1, w2, hc, fun x3 er hSw2 => ?_⟩
      subst er
      have h : PS X k 269 40 [.ref 147, .int i1, .int i2, .int i3, .int i4, .int i5] [.int x3] w2 r w' := h
      have h := sp_onk (i := .iload_n 3) (by decide +kernel) rfl h
      rcases sp_icmp_lt (mi := 269) (pc := 41) (off := 7) (t := 48) (by decide +kernel) (by decide) rfl h with ⟨hc, h⟩ | ⟨hc, h⟩
      · refine ite_t hc ?_
        have h := sp_iconst (n := 0) (v := 0) (by decide +kernel) (by decide +kernel) h
        have h := sp_istore (j := 4) (ls' := [.ref 147, .int i1, .int i2, .int i3, .int 0, .int i5]) (by decide +kernel) (Nat.le_of_ble_eq_true rfl) rfl h
        have h := sp_iinc (j := 5) (n := 1) (v := 1) (ls' := [.ref 147, .int i1, .int i2, .int i3, .int 0, .int (i5 + 1)]) (by decide +kernel) rfl (by decide +kernel) rfl h
        have h := sp_goto (mi := 269) (pc := 54) (off := (-48)) (t := 6) (by decide +kernel) (by decide) rfl h
        exact h
      · refine ite_f hc ?_
        have h := sp_iconst (n := 1) (v := 1) (by decide +kernel) (by decide +kernel) h
        have h := sp_goto (mi := 269) (pc := 45) (off := 4) (t := 49) (by decide +kernel) (by decide) rfl h
        have h := sp_istore (j := 4) (ls' := [.ref 147, .int i1, .int i2, .int i3, .int 1, .int i5]) (by decide +kernel) (Nat.le_of_ble_eq_true rfl) rfl h
        have h := sp_iinc (j := 5) (n := 1) (v := 1) (ls' := [.ref 147, .int i1, .int i2, .int i3, .int 1, .int (i5 + 1)]) (by decide +kernel) rfl (by decide +kernel) rfl h
        have h := sp_goto (mi := 269) (pc := 54) (off := (-48)) (t := 6) (by decide +kernel) (by decide) rfl h
        exact h
