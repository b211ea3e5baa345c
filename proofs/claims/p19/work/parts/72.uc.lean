set_option maxRecDepth 20000 in
set_option maxHeartbeats 2000000 in
theorem U18_0 {X : pm_X} {k : Nat} {w w' : pm_W} {r : Option Value} {q1 : Nat} {p2 : Int32} {p3 : Int32} (hS : SK w) (h : PS X (k + 1) 18 0 [.ref 23, .ref q1, .int p2, .int p3, pm_dead] [] w r w') : ∃ (r1 : Option Value) (w2 : pm_W), PS X k 19 0 [.ref 24] [] w r1 w2 ∧ (r1 = none → SK w2 → (∃ (r3 : Option Value) (w4 : pm_W), PS X k 21 0 [.ref 29] [] w2 r3 w4 ∧ (r3 = none → SK w4 → (∀ w5 : pm_W, w5 = sR w4 23 3 q1 → (∀ w6 : pm_W, w6 = sI w5 23 4 (if (Int32.ofNat (gN w5 q1)) < p2 then (Int32.ofNat (gN w5 q1)) else p2) → (∀ w7 : pm_W, w7 = sI w6 23 5 0 → (∀ w8 : pm_W, w8 = sI w7 23 9 (-1) → (∀ w9 : pm_W, w9 = sI w8 23 10 0 → (∀ w10 : pm_W, w10 = sI w9 23 11 (-1) → (∃ (r11 : Option Value) (w12 : pm_W), PS X k 23 0 [.ref 23, pm_dead] [] w10 r11 w12 ∧ (r11 = none → SK w12 → (PS X k 18 56 [.ref 23, .ref q1, .int p2, .int p3, .int 0] [] w12 r w')))))))))))) := by
  have h := sp_one (i := .aload_n 0) (by decide +kernel) rfl h
  have h := sp_getK (jj := 12) (ci := 4) (n := 0) (b := 24) (by decide +kernel) (by decide +kernel) (by decide +kernel) (by decide +kernel) (by decide) hS h
  obtain ⟨r1, w2, hc, h⟩ := sp_callV (jj := 33) (mj := 19) (n := 0) (v := .ref 24) (args := []) (ls' := [.ref 24]) (by decide +kernel) (by decide +kernel) rfl rfl rfl h
  refine ⟨r1, w2, hc, fun er hSw2 => ?_⟩
  subst er
  have h : PS X k 18 7 [.ref 23, .ref q1, .int p2, .int p3, pm_dead] [] w2 r w' := h
  have h := sp_onk (i := .aload_n 0) (by decide +kernel) rfl h
  have h := sp_getK (jj := 21) (ci := 4) (n := 1) (b := 29) (by decide +kernel) (by decide +kernel) (by decide +kernel) (by decide +kernel) (by decide) hSw2 h
  obtain ⟨r3, w4, hc, h⟩ := sp_callV (jj := 36) (mj := 21) (n := 0) (v := .ref 29) (args := []) (ls' := [.ref 29]) (by decide +kernel) (by decide +kernel) rfl rfl rfl h
  refine ⟨r3, w4, hc, fun er hSw4 => ?_⟩
  subst er
  have h : PS X k 18 14 [.ref 23, .ref q1, .int p2, .int p3, pm_dead] [] w4 r w' := h
  have h := sp_onk (i := .aload_n 0) (by decide +kernel) rfl h
  have h := sp_onk (i := .aload_n 1) (by decide +kernel) rfl h
  have h := sp_putR (jj := 29) (ci := 4) (n := 3) (ty := .array .byte) (by decide +kernel) (by decide +kernel) (by decide +kernel) rfl hSw4 h
  intro w5 ew5
  rw [← ew5] at h
  have hSw5 : SK w5 := by rw [ew5]; exact SK_sR hSw4
  have h := sp_onk (i := .aload_n 0) (by decide +kernel) rfl h
  have h := sp_onk (i := .iload_n 2) (by decide +kernel) rfl h
  have h := sp_onk (i := .aload_n 1) (by decide +kernel) rfl h
  have h := sp_alenN (by decide +kernel) h
  have h := sp_min (j := 37) (by decide +kernel) (by decide +kernel) (by decide +kernel) h
  have h := sp_putI (jj := 43) (ci := 4) (n := 4) (ty := .int) (by decide +kernel) (by decide +kernel) (by decide +kernel) hSw5 h
  intro w6 ew6
  rw [← ew6] at h
  have hSw6 : SK w6 := by rw [ew6]; exact SK_sI hSw5
  have h := sp_onk (i := .aload_n 0) (by decide +kernel) rfl h
  have h := sp_iconst (n := 0) (v := 0) (by decide +kernel) (by decide +kernel) h
  have h := sp_putI (jj := 47) (ci := 4) (n := 5) (ty := .int) (by decide +kernel) (by decide +kernel) (by decide +kernel) hSw6 h
  intro w7 ew7
  rw [← ew7] at h
  have hSw7 : SK w7 := by rw [ew7]; exact SK_sI hSw6
  have h := sp_onk (i := .aload_n 0) (by decide +kernel) rfl h
  have h := sp_iconst (n := (-1)) (v := (-1)) (by decide +kernel) (by decide +kernel) h
  have h := sp_putI (jj := 50) (ci := 4) (n := 9) (ty := .int) (by decide +kernel) (by decide +kernel) (by decide +kernel) hSw7 h
  intro w8 ew8
  rw [← ew8] at h
  have hSw8 : SK w8 := by rw [ew8]; exact SK_sI hSw7
  have h := sp_onk (i := .aload_n 0) (by decide +kernel) rfl h
  have h := sp_iconst (n := 0) (v := 0) (by decide +kernel) (by decide +kernel) h
  have h := sp_putI (jj := 53) (ci := 4) (n := 10) (ty := .int) (by decide +kernel) (by decide +kernel) (by decide +kernel) hSw8 h
  intro w9 ew9
  rw [← ew9] at h
  have hSw9 : SK w9 := by rw [ew9]; exact SK_sI hSw8
  have h := sp_onk (i := .aload_n 0) (by decide +kernel) rfl h
  have h := sp_iconst (n := (-1)) (v := (-1)) (by decide +kernel) (by decide +kernel) h
  have h := sp_putI (jj := 56) (ci := 4) (n := 11) (ty := .int) (by decide +kernel) (by decide +kernel) (by decide +kernel) hSw9 h
  intro w10 ew10
  rw [← ew10] at h
  have hSw10 : SK w10 := by rw [ew10]; exact SK_sI hSw9
  have h := sp_onk (i := .aload_n 0) (by decide +kernel) rfl h
  obtain ⟨r11, w12, hc, h⟩ := sp_callV (jj := 59) (mj := 23) (n := 0) (v := .ref 23) (args := []) (ls' := [.ref 23, pm_dead]) (by decide +kernel) (by decide +kernel) rfl rfl rfl h
  refine ⟨r11, w12, hc, fun er hSw12 => ?_⟩
  subst er
  have h : PS X k 18 53 [.ref 23, .ref q1, .int p2, .int p3, pm_dead] [] w12 r w' := h
  have h := sp_iconst (n := 0) (v := 0) (by decide +kernel) (by decide +kernel) h
  have h := sp_istore (j := 4) (ls' := [.ref 23, .ref q1, .int p2, .int p3, .int 0]) (by decide +kernel) (Nat.le_of_ble_eq_true rfl) rfl h
  exact h
set_option maxRecDepth 20000 in
set_option maxHeartbeats 2000000 in
theorem U18_56 {X : pm_X} {k : Nat} {w w' : pm_W} {r : Option Value} {o1 : Nat} {i2 : Int32} {i3 : Int32} {i4 : Int32} (hS : SK w) (h : PS X (k + 1) 18 56 [.ref 23, .ref o1, .int i2, .int i3, .int i4] [] w r w') : if (gI w 23 4) < i4 then (if i3 = 0 then (if (gI w 23 9) < (gI w 24 0) then (r = none ∧ w' = w) else (∃ (r1 : Option Value) (w2 : pm_W), PS X k 46 0 [.ref 23, .int 4, .int (gI w 23 4)] [] w r1 w2 ∧ (r1 = none → SK w2 → (r = none ∧ w' = w2)))) else (r = none ∧ w' = w)) else (if (gI w 23 6) = 0 then (if i3 = 0 then (if (gI w 23 9) < (gI w 24 0) then (r = none ∧ w' = w) else (∃ (r3 : Option Value) (w4 : pm_W), PS X k 46 0 [.ref 23, .int 4, .int (gI w 23 4)] [] w r3 w4 ∧ (r3 = none → SK w4 → (r = none ∧ w' = w4)))) else (r = none ∧ w' = w)) else (∃ (r5 : Option Value) (w6 : pm_W), PS X k 29 0 [.ref 23, .int i3, pm_dead, pm_dead, pm_dead] [] w r5 w6 ∧ (∀ x7 : Int32, r5 = some (.int x7) → SK w6 → (if x7 = 0 then (∀ w8 : pm_W, w8 = sI w6 23 10 1 → (∀ w9 : pm_W, w9 = sI w8 23 11 (gI w8 23 7) → (r = none ∧ w' = w9))) else (PS X k 18 56 [.ref 23, .ref o1, .int i2, .int i3, .int (i4 + 1)] [] w6 r w'))))) := by
  have h := sp_one (i := .iload 4) (by decide +kernel) rfl h
  have h := sp_onk (i := .aload_n 0) (by decide +kernel) rfl h
  have h := sp_getI (jj := 43) (ci := 4) (n := 4) (by decide +kernel) (by decide +kernel) (by decide +kernel) hS h
  rcases sp_icmp_gt (mi := 18) (pc := 62) (off := 38) (t := 100) (by decide +kernel) (by decide) rfl h with ⟨hc, h⟩ | ⟨hc, h⟩
  · refine ite_t hc ?_
    have h := sp_onk (i := .iload_n 3) (by decide +kernel) rfl h
    rcases sp_if_ne (mi := 18) (pc := 101) (off := 26) (t := 127) (by decide +kernel) (by decide) rfl h with ⟨hc, h⟩ | ⟨hc, h⟩
    · refine ite_f hc ?_
      exact sp_vret (by decide +kernel) h
    · refine ite_t (Classical.not_not.mp hc) ?_
      have h := sp_onk (i := .aload_n 0) (by decide +kernel) rfl h
      have h := sp_getI (jj := 50) (ci := 4) (n := 9) (by decide +kernel) (by decide +kernel) (by decide +kernel) hS h
      have h := sp_onk (i := .aload_n 0) (by decide +kernel) rfl h
      have h := sp_getK (jj := 12) (ci := 4) (n := 0) (b := 24) (by decide +kernel) (by decide +kernel) (by decide +kernel) (by decide +kernel) (by decide) hS h
      have h := sp_getI (jj := 72) (ci := 9) (n := 0) (by decide +kernel) (by decide +kernel) (by decide +kernel) hS h
      rcases sp_icmp_lt (mi := 18) (pc := 115) (off := 12) (t := 127) (by decide +kernel) (by decide) rfl h with ⟨hc, h⟩ | ⟨hc, h⟩
      · refine ite_t hc ?_
        exact sp_vret (by decide +kernel) h
      · refine ite_f hc ?_
        have h := sp_onk (i := .aload_n 0) (by decide +kernel) rfl h
        have h := sp_iconst (n := 4) (v := 4) (by decide +kernel) (by decide +kernel) h
        have h := sp_onk (i := .aload_n 0) (by decide +kernel) rfl h
        have h := sp_getI (jj := 43) (ci := 4) (n := 4) (by decide +kernel) (by decide +kernel) (by decide +kernel) hS h
        obtain ⟨r1, w2, hc, h⟩ := sp_callV (jj := 75) (mj := 46) (n := 2) (v := .ref 23) (args := [.int (gI w 23 4), .int 4]) (ls' := [.ref 23, .int 4, .int (gI w 23 4)]) (by decide +kernel) (by decide +kernel) rfl rfl rfl h
        refine ⟨r1, w2, hc, fun er hSw2 => ?_⟩
        subst er
        have h : PS X k 18 127 [.ref 23, .ref o1, .int i2, .int i3, .int i4] [] w2 r w' := h
        exact sp_vret (by decide +kernel) h
  · refine ite_f hc ?_
    have h := sp_onk (i := .aload_n 0) (by decide +kernel) rfl h
    have h := sp_getI (jj := 62) (ci := 4) (n := 6) (by decide +kernel) (by decide +kernel) (by decide +kernel) hS h
    rcases sp_if_eq (mi := 18) (pc := 69) (off := 31) (t := 100) (by decide +kernel) (by decide) rfl h with ⟨hc, h⟩ | ⟨hc, h⟩
    · refine ite_t hc ?_
      have h := sp_onk (i := .iload_n 3) (by decide +kernel) rfl h
      rcases sp_if_ne (mi := 18) (pc := 101) (off := 26) (t := 127) (by decide +kernel) (by decide) rfl h with ⟨hc, h⟩ | ⟨hc, h⟩
      · refine ite_f hc ?_
        exact sp_vret (by decide +kernel) h
      · refine ite_t (Classical.not_not.mp hc) ?_
        have h := sp_onk (i := .aload_n 0) (by decide +kernel) rfl h
        have h := sp_getI (jj := 50) (ci := 4) (n := 9) (by decide +kernel) (by decide +kernel) (by decide +kernel) hS h
        have h := sp_onk (i := .aload_n 0) (by decide +kernel) rfl h
        have h := sp_getK (jj := 12) (ci := 4) (n := 0) (b := 24) (by decide +kernel) (by decide +kernel) (by decide +kernel) (by decide +kernel) (by decide) hS h
        have h := sp_getI (jj := 72) (ci := 9) (n := 0) (by decide +kernel) (by decide +kernel) (by decide +kernel) hS h
        rcases sp_icmp_lt (mi := 18) (pc := 115) (off := 12) (t := 127) (by decide +kernel) (by decide) rfl h with ⟨hc, h⟩ | ⟨hc, h⟩
        · refine ite_t hc ?_
          exact sp_vret (by decide +kernel) h
        · refine ite_f hc ?_
          have h := sp_onk (i := .aload_n 0) (by decide +kernel) rfl h
          have h := sp_iconst (n := 4) (v := 4) (by decide +kernel) (by decide +kernel) h
          have h := sp_onk (i := .aload_n 0) (by decide +kernel) rfl h
          have h := sp_getI (jj := 43) (ci := 4) (n := 4) (by decide +kernel) (by decide +kernel) (by decide +kernel) hS h
          obtain ⟨r3, w4, hc, h⟩ := sp_callV (jj := 75) (mj := 46) (n := 2) (v := .ref 23) (args := [.int (gI w 23 4), .int 4]) (ls' := [.ref 23, .int 4, .int (gI w 23 4)]) (by decide +kernel) (by decide +kernel) rfl rfl rfl h
          refine ⟨r3, w4, hc, fun er hSw4 => ?_⟩
          subst er
          have h : PS X k 18 127 [.ref 23, .ref o1, .int i2, .int i3, .int i4] [] w4 r w' := h
          exact sp_vret (by decide +kernel) h
    · refine ite_f hc ?_
      have h := sp_onk (i := .aload_n 0) (by decide +kernel) rfl h
      have h := sp_onk (i := .iload_n 3) (by decide +kernel) rfl h
      obtain ⟨r5, w6, hc, h⟩ := sp_callV (jj := 65) (mj := 29) (n := 1) (v := .ref 23) (args := [.int i3]) (ls' := [.ref 23, .int i3, pm_dead, pm_dead, pm_dead]) (by decide +kernel) (by decide +kernel) rfl rfl rfl h
      refine ⟨r5, w6, hc, fun x7 er hSw6 => ?_⟩
      subst er
      have h : PS X k 18 77 [.ref 23, .ref o1, .int i2, .int i3, .int i4] [.int x7] w6 r w' := h
      rcases sp_if_ne (mi := 18) (pc := 77) (off := 17) (t := 94) (by decide +kernel) (by decide) rfl h with ⟨hc, h⟩ | ⟨hc, h⟩
      · refine ite_f hc ?_
        have h := sp_iinc (j := 4) (n := 1) (v := 1) (ls' := [.ref 23, .ref o1, .int i2, .int i3, .int (i4 + 1)]) (by decide +kernel) rfl (by decide +kernel) rfl h
        have h := sp_goto (mi := 18) (pc := 97) (off := (-41)) (t := 56) (by decide +kernel) (by decide) rfl h
        exact h
      · refine ite_t (Classical.not_not.mp hc) ?_
        have h := sp_onk (i := .aload_n 0) (by decide +kernel) rfl h
        have h := sp_iconst (n := 1) (v := 1) (by decide +kernel) (by decide +kernel) h
        have h := sp_putI (jj := 53) (ci := 4) (n := 10) (ty := .int) (by decide +kernel) (by decide +kernel) (by decide +kernel) hSw6 h
        intro w8 ew8
        rw [← ew8] at h
        have hSw8 : SK w8 := by rw [ew8]; exact SK_sI hSw6
        have h := sp_onk (i := .aload_n 0) (by decide +kernel) rfl h
        have h := sp_onk (i := .aload_n 0) (by decide +kernel) rfl h
        have h := sp_getI (jj := 69) (ci := 4) (n := 7) (by decide +kernel) (by decide +kernel) (by decide +kernel) hSw8 h
        have h := sp_putI (jj := 56) (ci := 4) (n := 11) (ty := .int) (by decide +kernel) (by decide +kernel) (by decide +kernel) hSw8 h
        intro w9 ew9
        rw [← ew9] at h
        have hSw9 : SK w9 := by rw [ew9]; exact SK_sI hSw8
        exact sp_vret (by decide +kernel) h
set_option maxRecDepth 20000 in
set_option maxHeartbeats 2000000 in
theorem U19_0 {X : pm_X} {k : Nat} {w w' : pm_W} {r : Option Value} {a : Nat} (hS : SK w) (h : PS X (k + 1) 19 0 [.ref a] [] w r w') : ∀ w1 : pm_W, w1 = sI w a 0 4 → (∀ w2 : pm_W, w2 = sI w1 a 1 0 → (∀ w3 : pm_W, w3 = sI w2 a 2 0 → (∃ (r4 : Option Value) (w5 : pm_W), PS X k 20 0 [.ref (gR w3 a 3), .int 0, pm_dead, pm_dead] [] w3 r4 w5 ∧ (r4 = none → SK w5 → (∃ (r6 : Option Value) (w7 : pm_W), PS X k 20 0 [.ref (gR w5 a 4), .int 0, pm_dead, pm_dead] [] w5 r6 w7 ∧ (r6 = none → SK w7 → (∃ (r8 : Option Value) (w9 : pm_W), PS X k 20 0 [.ref (gR w7 a 5), .int 0, pm_dead, pm_dead] [] w7 r8 w9 ∧ (r8 = none → SK w9 → (∃ (r10 : Option Value) (w11 : pm_W), PS X k 20 0 [.ref (gR w9 a 6), .int 0, pm_dead, pm_dead] [] w9 r10 w11 ∧ (r10 = none → SK w11 → (r = none ∧ w' = w11))))))))))) := by
  have h := sp_one (i := .aload_n 0) (by decide +kernel) rfl h
  have h := sp_iconst (n := 4) (v := 4) (by decide +kernel) (by decide +kernel) h
  have h := sp_putI (jj := 9) (ci := 9) (n := 0) (ty := .int) (by decide +kernel) (by decide +kernel) (by decide +kernel) hS h
  intro w1 ew1
  rw [← ew1] at h
  have hSw1 : SK w1 := by rw [ew1]; exact SK_sI hS
  have h := sp_onk (i := .aload_n 0) (by decide +kernel) rfl h
  have h := sp_iconst (n := 0) (v := 0) (by decide +kernel) (by decide +kernel) h
  have h := sp_putI (jj := 28) (ci := 9) (n := 1) (ty := .int) (by decide +kernel) (by decide +kernel) (by decide +kernel) hSw1 h
  intro w2 ew2
  rw [← ew2] at h
  have hSw2 : SK w2 := by rw [ew2]; exact SK_sI hSw1
  have h := sp_onk (i := .aload_n 0) (by decide +kernel) rfl h
  have h := sp_iconst (n := 0) (v := 0) (by decide +kernel) (by decide +kernel) h
  have h := sp_putI (jj := 31) (ci := 9) (n := 2) (ty := .int) (by decide +kernel) (by decide +kernel) (by decide +kernel) hSw2 h
  intro w3 ew3
  rw [← ew3] at h
  have hSw3 : SK w3 := by rw [ew3]; exact SK_sI hSw2
  have h := sp_onk (i := .aload_n 0) (by decide +kernel) rfl h
  have h := sp_getR (jj := 15) (ci := 9) (n := 3) (by decide +kernel) (by decide +kernel) (by decide +kernel) hSw3 h
  have h := sp_iconst (n := 0) (v := 0) (by decide +kernel) (by decide +kernel) h
  obtain ⟨r4, w5, hc, h⟩ := sp_callS (jj := 34) (mj := 20) (n := 2) (args := [.int 0, .ref (gR w3 a 3)]) (ls' := [.ref (gR w3 a 3), .int 0, pm_dead, pm_dead]) (by decide +kernel) (by decide +kernel) (by decide +kernel) rfl rfl rfl h
  refine ⟨r4, w5, hc, fun er hSw5 => ?_⟩
  subst er
  have h : PS X k 19 23 [.ref a] [] w5 r w' := h
  have h := sp_onk (i := .aload_n 0) (by decide +kernel) rfl h
  have h := sp_getR (jj := 19) (ci := 9) (n := 4) (by decide +kernel) (by decide +kernel) (by decide +kernel) hSw5 h
  have h := sp_iconst (n := 0) (v := 0) (by decide +kernel) (by decide +kernel) h
  obtain ⟨r6, w7, hc, h⟩ := sp_callS (jj := 34) (mj := 20) (n := 2) (args := [.int 0, .ref (gR w5 a 4)]) (ls' := [.ref (gR w5 a 4), .int 0, pm_dead, pm_dead]) (by decide +kernel) (by decide +kernel) (by decide +kernel) rfl rfl rfl h
  refine ⟨r6, w7, hc, fun er hSw7 => ?_⟩
  subst er
  have h : PS X k 19 31 [.ref a] [] w7 r w' := h
  have h := sp_onk (i := .aload_n 0) (by decide +kernel) rfl h
  have h := sp_getR (jj := 22) (ci := 9) (n := 5) (by decide +kernel) (by decide +kernel) (by decide +kernel) hSw7 h
  have h := sp_iconst (n := 0) (v := 0) (by decide +kernel) (by decide +kernel) h
  obtain ⟨r8, w9, hc, h⟩ := sp_callS (jj := 34) (mj := 20) (n := 2) (args := [.int 0, .ref (gR w7 a 5)]) (ls' := [.ref (gR w7 a 5), .int 0, pm_dead, pm_dead]) (by decide +kernel) (by decide +kernel) (by decide +kernel) rfl rfl rfl h
  refine ⟨r8, w9, hc, fun er hSw9 => ?_⟩
  subst er
  have h : PS X k 19 39 [.ref a] [] w9 r w' := h
  have h := sp_onk (i := .aload_n 0) (by decide +kernel) rfl h
  have h := sp_getR (jj := 25) (ci := 9) (n := 6) (by decide +kernel) (by decide +kernel) (by decide +kernel) hSw9 h
  have h := sp_iconst (n := 0) (v := 0) (by decide +kernel) (by decide +kernel) h
  obtain ⟨r10, w11, hc, h⟩ := sp_callS (jj := 34) (mj := 20) (n := 2) (args := [.int 0, .ref (gR w9 a 6)]) (ls' := [.ref (gR w9 a 6), .int 0, pm_dead, pm_dead]) (by decide +kernel) (by decide +kernel) (by decide +kernel) rfl rfl rfl h
  refine ⟨r10, w11, hc, fun er hSw11 => ?_⟩
  subst er
  have h : PS X k 19 47 [.ref a] [] w11 r w' := h
  exact sp_vret (by decide +kernel) h
set_option maxRecDepth 20000 in
set_option maxHeartbeats 2000000 in
theorem U20_0 {X : pm_X} {k : Nat} {w w' : pm_W} {r : Option Value} {q1 : Nat} {p2 : Int32} (hS : SK w) (h : PS X (k + 1) 20 0 [.ref q1, .int p2, pm_dead, pm_dead] [] w r w') : PS X k 20 5 [.ref q1, .int p2, .int 0, .int (Int32.ofNat (gN w q1))] [] w r w' := by
  have h := sp_iconst1 (n := 0) (v := 0) (by decide +kernel) (by decide +kernel) h
  have h := sp_istore_n (j := 2) (ls' := [.ref q1, .int p2, .int 0, pm_dead]) (by decide +kernel) (Nat.le_of_ble_eq_true rfl) rfl h
  have h := sp_onk (i := .aload_n 0) (by decide +kernel) rfl h
  have h := sp_alenN (by decide +kernel) h
  have h := sp_istore_n (j := 3) (ls' := [.ref q1, .int p2, .int 0, .int (Int32.ofNat (gN w q1))]) (by decide +kernel) (Nat.le_of_ble_eq_true rfl) rfl h
  exact h
set_option maxRecDepth 20000 in
set_option maxHeartbeats 2000000 in
theorem U20_5 {X : pm_X} {k : Nat} {w w' : pm_W} {r : Option Value} {o0 : Nat} {i1 : Int32} {i2 : Int32} {i3 : Int32} (hS : SK w) (h : PS X (k + 1) 20 5 [.ref o0, .int i1, .int i2, .int i3] [] w r w') : if i3 ≤ i2 then (r = none ∧ w' = w) else (aI w o0 i2 ∧ (∀ w1 : pm_W, w1 = aS w o0 i2 i1 → (PS X k 20 5 [.ref o0, .int i1, .int (i2 + 1), .int i3] [] w1 r w'))) := by
  have h := sp_one (i := .iload_n 2) (by decide +kernel) rfl h
  have h := sp_onk (i := .iload_n 3) (by decide +kernel) rfl h
  rcases sp_icmp_ge (mi := 20) (pc := 7) (off := 13) (t := 20) (by decide +kernel) (by decide) rfl h with ⟨hc, h⟩ | ⟨hc, h⟩
  · refine ite_t hc ?_
    exact sp_vret (by decide +kernel) h
  · refine ite_f hc ?_
    have h := sp_onk (i := .aload_n 0) (by decide +kernel) rfl h
    have h := sp_onk (i := .iload_n 2) (by decide +kernel) rfl h
    have h := sp_onk (i := .iload_n 1) (by decide +kernel) rfl h
    obtain ⟨hi, h⟩ := sp_iast (by decide +kernel) h
    refine ⟨hi, ?_⟩
    intro w1 ew1
    rw [← ew1] at h
    have hSw1 : SK w1 := by rw [ew1]; exact SK_aS hS
    have h := sp_iinc (j := 2) (n := 1) (v := 1) (ls' := [.ref o0, .int i1, .int (i2 + 1), .int i3]) (by decide +kernel) rfl (by decide +kernel) rfl h
    have h := sp_goto (mi := 20) (pc := 17) (off := (-12)) (t := 5) (by decide +kernel) (by decide) rfl h
    exact h
set_option maxRecDepth 20000 in
set_option maxHeartbeats 2000000 in
theorem U21_0 {X : pm_X} {k : Nat} {w w' : pm_W} {r : Option Value} {a : Nat} (hS : SK w) (h : PS X (k + 1) 21 0 [.ref a] [] w r w') : ∀ w1 : pm_W, w1 = sI w a 0 0 → (r = none ∧ w' = w1) := by
  have h := sp_one (i := .aload_n 0) (by decide +kernel) rfl h
  have h := sp_iconst (n := 0) (v := 0) (by decide +kernel) (by decide +kernel) h
  have h := sp_putI (jj := 15) (ci := 5) (n := 0) (ty := .int) (by decide +kernel) (by decide +kernel) (by decide +kernel) hS h
  intro w1 ew1
  rw [← ew1] at h
  have hSw1 : SK w1 := by rw [ew1]; exact SK_sI hS
  exact sp_vret (by decide +kernel) h
set_option maxRecDepth 20000 in
set_option maxHeartbeats 2000000 in
theorem U29_0 {X : pm_X} {k : Nat} {w w' : pm_W} {r : Option Value} {p1 : Int32} (hS : SK w) (h : PS X (k + 1) 29 0 [.ref 23, .int p1, pm_dead, pm_dead, pm_dead] [] w r w') : ∃ (r1 : Option Value) (w2 : pm_W), PS X k 30 0 [.ref 23, .int p1, pm_dead, pm_dead, pm_dead] [] w r1 w2 ∧ (∀ x3 : Int32, r1 = some (.int x3) → SK w2 → (if x3 = (-1) then (r = some (.int 0) ∧ w' = w2) else (∃ (r4 : Option Value) (w5 : pm_W), PS X k 44 0 [.ref 23, .int x3] [] w2 r4 w5 ∧ (∀ x6 : Int32, r4 = some (.int x6) → SK w5 → (if x6 = 0 then (PS X k 29 30 [.ref 23, .int p1, .int x3, pm_dead, pm_dead] [] w5 r w') else (∃ (r7 : Option Value) (w8 : pm_W), PS X k 46 0 [.ref 23, .int 3, .int (gI w5 23 7)] [] w5 r7 w8 ∧ (r7 = none → SK w8 → (PS X k 29 30 [.ref 23, .int p1, .int x3, pm_dead, pm_dead] [] w8 r w')))))))) := by
  have h := sp_one (i := .aload_n 0) (by decide +kernel) rfl h
  have h := sp_onk (i := .iload_n 1) (by decide +kernel) rfl h
  obtain ⟨r1, w2, hc, h⟩ := sp_callV (jj := 79) (mj := 30) (n := 1) (v := .ref 23) (args := [.int p1]) (ls' := [.ref 23, .int p1, pm_dead, pm_dead, pm_dead]) (by decide +kernel) (by decide +kernel) rfl rfl rfl h
  refine ⟨r1, w2, hc, fun x3 er hSw2 => ?_⟩
  subst er
  have h : PS X k 29 5 [.ref 23, .int p1, pm_dead, pm_dead, pm_dead] [.int x3] w2 r w' := h
  have h := sp_istore_n (j := 2) (ls' := [.ref 23, .int p1, .int x3, pm_dead, pm_dead]) (by decide +kernel) (Nat.le_of_ble_eq_true rfl) rfl h
  have h := sp_onk (i := .iload_n 2) (by decide +kernel) rfl h
  have h := sp_iconst (n := (-1)) (v := (-1)) (by decide +kernel) (by decide +kernel) h
  rcases sp_icmp_ne (mi := 29) (pc := 8) (off := 5) (t := 13) (by decide +kernel) (by decide) rfl h with ⟨hc, h⟩ | ⟨hc, h⟩
  · refine ite_f hc ?_
    have h := sp_onk (i := .aload_n 0) (by decide +kernel) rfl h
    have h := sp_onk (i := .iload_n 2) (by decide +kernel) rfl h
    obtain ⟨r4, w5, hc, h⟩ := sp_callV (jj := 83) (mj := 44) (n := 1) (v := .ref 23) (args := [.int x3]) (ls' := [.ref 23, .int x3]) (by decide +kernel) (by decide +kernel) rfl rfl rfl h
    refine ⟨r4, w5, hc, fun x6 er hSw5 => ?_⟩
    subst er
    have h : PS X k 29 18 [.ref 23, .int p1, .int x3, pm_dead, pm_dead] [.int x6] w5 r w' := h
    rcases sp_if_eq (mi := 29) (pc := 18) (off := 12) (t := 30) (by decide +kernel) (by decide) rfl h with ⟨hc, h⟩ | ⟨hc, h⟩
    · refine ite_t hc ?_
      exact h
    · refine ite_f hc ?_
      have h := sp_onk (i := .aload_n 0) (by decide +kernel) rfl h
      have h := sp_iconst (n := 3) (v := 3) (by decide +kernel) (by decide +kernel) h
      have h := sp_onk (i := .aload_n 0) (by decide +kernel) rfl h
      have h := sp_getI (jj := 69) (ci := 4) (n := 7) (by decide +kernel) (by decide +kernel) (by decide +kernel) hSw5 h
      obtain ⟨r7, w8, hc, h⟩ := sp_callV (jj := 75) (mj := 46) (n := 2) (v := .ref 23) (args := [.int (gI w5 23 7), .int 3]) (ls' := [.ref 23, .int 3, .int (gI w5 23 7)]) (by decide +kernel) (by decide +kernel) rfl rfl rfl h
      refine ⟨r7, w8, hc, fun er hSw8 => ?_⟩
      subst er
      have h : PS X k 29 30 [.ref 23, .int p1, .int x3, pm_dead, pm_dead] [] w8 r w' := h
      exact h
  · refine ite_t (Classical.not_not.mp hc) ?_
    have h := sp_iconst (n := 0) (v := 0) (by decide +kernel) (by decide +kernel) h
    exact sp_iret (by decide +kernel) h
set_option maxRecDepth 20000 in
set_option maxHeartbeats 2000000 in
theorem U29_30 {X : pm_X} {k : Nat} {w w' : pm_W} {r : Option Value} {i1 : Int32} {i2 : Int32} (hS : SK w) (h : PS X (k + 1) 29 30 [.ref 23, .int i1, .int i2, pm_dead, pm_dead] [] w r w') : ∃ (r1 : Option Value) (w2 : pm_W), PS X k 23 0 [.ref 23, pm_dead] [] w r1 w2 ∧ (r1 = none → SK w2 → (PS X k 29 39 [.ref 23, .int i1, .int i2, .int 0, .int 0] [] w2 r w')) := by
  have h := sp_one (i := .aload_n 0) (by decide +kernel) rfl h
  obtain ⟨r1, w2, hc, h⟩ := sp_callV (jj := 59) (mj := 23) (n := 0) (v := .ref 23) (args := []) (ls' := [.ref 23, pm_dead]) (by decide +kernel) (by decide +kernel) rfl rfl rfl h
  refine ⟨r1, w2, hc, fun er hSw2 => ?_⟩
  subst er
  have h : PS X k 29 34 [.ref 23, .int i1, .int i2, pm_dead, pm_dead] [] w2 r w' := h
  have h := sp_iconst (n := 0) (v := 0) (by decide +kernel) (by decide +kernel) h
  have h := sp_istore_n (j := 3) (ls' := [.ref 23, .int i1, .int i2, .int 0, pm_dead]) (by decide +kernel) (Nat.le_of_ble_eq_true rfl) rfl h
  have h := sp_iconst (n := 0) (v := 0) (by decide +kernel) (by decide +kernel) h
  have h := sp_istore (j := 4) (ls' := [.ref 23, .int i1, .int i2, .int 0, .int 0]) (by decide +kernel) (Nat.le_of_ble_eq_true rfl) rfl h
  exact h
set_option maxRecDepth 20000 in
set_option maxHeartbeats 2000000 in
theorem U29_39 {X : pm_X} {k : Nat} {w w' : pm_W} {r : Option Value} {i1 : Int32} {i2 : Int32} {i3 : Int32} {i4 : Int32} (hS : SK w) (h : PS X (k + 1) 29 39 [.ref 23, .int i1, .int i2, .int i3, .int i4] [] w r w') : if (gI w 23 4) ≤ i4 then (PS X k 29 107 [.ref 23, .int i1, .int i2, .int i3, .int i4] [] w r w') else (if (gI w 23 6) = 2 then (iN i2 (xA X 1).length ∧ (if i3 < ((xA X 1).getD i2.toNatClampNeg 0) then (PS X k 29 72 [.ref 23, .int i1, .int i2, .int i3, .int i4] [] w r w') else (if i2 = 2 then (PS X k 29 72 [.ref 23, .int i1, .int i2, .int i3, .int i4] [] w r w') else (r = some (.int 0) ∧ w' = w)))) else (PS X k 29 107 [.ref 23, .int i1, .int i2, .int i3, .int i4] [] w r w')) := by
  have h := sp_one (i := .iload 4) (by decide +kernel) rfl h
  have h := sp_onk (i := .aload_n 0) (by decide +kernel) rfl h
  have h := sp_getI (jj := 43) (ci := 4) (n := 4) (by decide +kernel) (by decide +kernel) (by decide +kernel) hS h
  rcases sp_icmp_ge (mi := 29) (pc := 45) (off := 62) (t := 107) (by decide +kernel) (by decide) rfl h with ⟨hc, h⟩ | ⟨hc, h⟩
  · refine ite_t hc ?_
    exact h
  · refine ite_f hc ?_
    have h := sp_onk (i := .aload_n 0) (by decide +kernel) rfl h
    have h := sp_getI (jj := 62) (ci := 4) (n := 6) (by decide +kernel) (by decide +kernel) (by decide +kernel) hS h
    have h := sp_iconst (n := 2) (v := 2) (by decide +kernel) (by decide +kernel) h
    rcases sp_icmp_ne (mi := 29) (pc := 53) (off := 54) (t := 107) (by decide +kernel) (by decide) rfl h with ⟨hc, h⟩ | ⟨hc, h⟩
    · refine ite_f hc ?_
      exact h
    · refine ite_t (Classical.not_not.mp hc) ?_
      have h := sp_onk (i := .iload_n 3) (by decide +kernel) rfl h
      have h := sp_static (j := 86) (v := .retAddr 1) (by decide +kernel) (by decide +kernel) h
      have h := sp_onk (i := .iload_n 2) (by decide +kernel) rfl h
      obtain ⟨hi, h⟩ := sp_ialdX (by decide +kernel) h
      refine ⟨hi, ?_⟩
      rcases sp_icmp_lt (mi := 29) (pc := 62) (off := 10) (t := 72) (by decide +kernel) (by decide) rfl h with ⟨hc, h⟩ | ⟨hc, h⟩
      · refine ite_t hc ?_
        exact h
      · refine ite_f hc ?_
        have h := sp_onk (i := .iload_n 2) (by decide +kernel) rfl h
        have h := sp_iconst (n := 2) (v := 2) (by decide +kernel) (by decide +kernel) h
        rcases sp_icmp_eq (mi := 29) (pc := 67) (off := 5) (t := 72) (by decide +kernel) (by decide) rfl h with ⟨hc, h⟩ | ⟨hc, h⟩
        · refine ite_t hc ?_
          exact h
        · refine ite_f hc ?_
          have h := sp_iconst (n := 0) (v := 0) (by decide +kernel) (by decide +kernel) h
          exact sp_iret (by decide +kernel) h
set_option maxRecDepth 20000 in
set_option maxHeartbeats 2000000 in
theorem U29_72 {X : pm_X} {k : Nat} {w w' : pm_W} {r : Option Value} {i1 : Int32} {i2 : Int32} {i3 : Int32} {i4 : Int32} (hS : SK w) (h : PS X (k + 1) 29 72 [.ref 23, .int i1, .int i2, .int i3, .int i4] [] w r w') : ∃ (r1 : Option Value) (w2 : pm_W), PS X k 47 0 [.ref 23, .int i2, .int i3, pm_dead] [] w r1 w2 ∧ (r1 = none → SK w2 → (if 8 ≤ i3 then (PS X k 29 94 [.ref 23, .int i1, .int i2, .int i3, .int i4] [] w2 r w') else (aI w2 31 i3 ∧ (∀ w3 : pm_W, w3 = aS w2 31 i3 (gI w2 23 8) → (PS X k 29 94 [.ref 23, .int i1, .int i2, .int i3, .int i4] [] w3 r w'))))) := by
  have h := sp_one (i := .aload_n 0) (by decide +kernel) rfl h
  have h := sp_onk (i := .iload_n 2) (by decide +kernel) rfl h
  have h := sp_onk (i := .iload_n 3) (by decide +kernel) rfl h
  obtain ⟨r1, w2, hc, h⟩ := sp_callV (jj := 89) (mj := 47) (n := 2) (v := .ref 23) (args := [.int i3, .int i2]) (ls' := [.ref 23, .int i2, .int i3, pm_dead]) (by decide +kernel) (by decide +kernel) rfl rfl rfl h
  refine ⟨r1, w2, hc, fun er hSw2 => ?_⟩
  subst er
  have h : PS X k 29 78 [.ref 23, .int i1, .int i2, .int i3, .int i4] [] w2 r w' := h
  have h := sp_onk (i := .iload_n 3) (by decide +kernel) rfl h
  have h := sp_bipush (n := 8) (v := 8) (by decide +kernel) (by decide +kernel) h
  rcases sp_icmp_ge (mi := 29) (pc := 81) (off := 13) (t := 94) (by decide +kernel) (by decide) rfl h with ⟨hc, h⟩ | ⟨hc, h⟩
  · refine ite_t hc ?_
    exact h
  · refine ite_f hc ?_
    have h := sp_onk (i := .aload_n 0) (by decide +kernel) rfl h
    have h := sp_getK (jj := 25) (ci := 4) (n := 2) (b := 31) (by decide +kernel) (by decide +kernel) (by decide +kernel) (by decide +kernel) (by decide) hSw2 h
    have h := sp_onk (i := .iload_n 3) (by decide +kernel) rfl h
    have h := sp_onk (i := .aload_n 0) (by decide +kernel) rfl h
    have h := sp_getI (jj := 92) (ci := 4) (n := 8) (by decide +kernel) (by decide +kernel) (by decide +kernel) hSw2 h
    obtain ⟨hi, h⟩ := sp_iast (by decide +kernel) h
    refine ⟨hi, ?_⟩
    intro w3 ew3
    rw [← ew3] at h
    have hSw3 : SK w3 := by rw [ew3]; exact SK_aS hSw2
    exact h
set_option maxRecDepth 20000 in
set_option maxHeartbeats 2000000 in
theorem U29_94 {X : pm_X} {k : Nat} {w w' : pm_W} {r : Option Value} {i1 : Int32} {i2 : Int32} {i3 : Int32} {i4 : Int32} (hS : SK w) (h : PS X (k + 1) 29 94 [.ref 23, .int i1, .int i2, .int i3, .int i4] [] w r w') : ∃ (r1 : Option Value) (w2 : pm_W), PS X k 23 0 [.ref 23, pm_dead] [] w r1 w2 ∧ (r1 = none → SK w2 → (PS X k 29 39 [.ref 23, .int i1, .int i2, .int (i3 + 1), .int (i4 + 1)] [] w2 r w')) := by
  have h := sp_iinc1 (j := 3) (n := 1) (v := 1) (ls' := [.ref 23, .int i1, .int i2, .int (i3 + 1), .int i4]) (by decide +kernel) rfl (by decide +kernel) rfl h
  have h := sp_onk (i := .aload_n 0) (by decide +kernel) rfl h
  obtain ⟨r1, w2, hc, h⟩ := sp_callV (jj := 59) (mj := 23) (n := 0) (v := .ref 23) (args := []) (ls' := [.ref 23, pm_dead]) (by decide +kernel) (by decide +kernel) rfl rfl rfl h
  refine ⟨r1, w2, hc, fun er hSw2 => ?_⟩
  subst er
  have h : PS X k 29 101 [.ref 23, .int i1, .int i2, .int (i3 + 1), .int i4] [] w2 r w' := h
  have h := sp_iinc (j := 4) (n := 1) (v := 1) (ls' := [.ref 23, .int i1, .int i2, .int (i3 + 1), .int (i4 + 1)]) (by decide +kernel) rfl (by decide +kernel) rfl h
  have h := sp_goto (mi := 29) (pc := 104) (off := (-65)) (t := 39) (by decide +kernel) (by decide) rfl h
  exact h
set_option maxRecDepth 20000 in
set_option maxHeartbeats 2000000 in
theorem U29_107 {X : pm_X} {k : Nat} {w w' : pm_W} {r : Option Value} {i1 : Int32} {i2 : Int32} {i3 : Int32} {i4 : Int32} (hS : SK w) (h : PS X (k + 1) 29 107 [.ref 23, .int i1, .int i2, .int i3, .int i4] [] w r w') : iN i2 (xA X 1).length ∧ (if i3 < ((xA X 1).getD i2.toNatClampNeg 0) then (PS X k 29 124 [.ref 23, .int i1, .int i2, .int i3, .int i4] [] w r w') else (if (gI w 23 6) = 3 then (∃ (r1 : Option Value) (w2 : pm_W), PS X k 23 0 [.ref 23, pm_dead] [] w r1 w2 ∧ (r1 = none → SK w2 → (if (gI w2 23 10) = 0 then (∃ (r3 : Option Value) (w4 : pm_W), PS X k 49 0 [.ref 23, .int i2, .int i3] [] w2 r3 w4 ∧ (r3 = none → SK w4 → (PS X k 29 143 [.ref 23, .int i1, .int i2, .int i3, .int i4] [] w4 r w'))) else (PS X k 29 143 [.ref 23, .int i1, .int i2, .int i3, .int i4] [] w2 r w')))) else (PS X k 29 124 [.ref 23, .int i1, .int i2, .int i3, .int i4] [] w r w'))) := by
  have h := sp_one (i := .iload_n 3) (by decide +kernel) rfl h
  have h := sp_static (j := 86) (v := .retAddr 1) (by decide +kernel) (by decide +kernel) h
  have h := sp_onk (i := .iload_n 2) (by decide +kernel) rfl h
  obtain ⟨hi, h⟩ := sp_ialdX (by decide +kernel) h
  refine ⟨hi, ?_⟩
  rcases sp_icmp_lt (mi := 29) (pc := 113) (off := 11) (t := 124) (by decide +kernel) (by decide) rfl h with ⟨hc, h⟩ | ⟨hc, h⟩
  · refine ite_t hc ?_
    exact h
  · refine ite_f hc ?_
    have h := sp_onk (i := .aload_n 0) (by decide +kernel) rfl h
    have h := sp_getI (jj := 62) (ci := 4) (n := 6) (by decide +kernel) (by decide +kernel) (by decide +kernel) hS h
    have h := sp_iconst (n := 3) (v := 3) (by decide +kernel) (by decide +kernel) h
    rcases sp_icmp_eq (mi := 29) (pc := 121) (off := 5) (t := 126) (by decide +kernel) (by decide) rfl h with ⟨hc, h⟩ | ⟨hc, h⟩
    · refine ite_t hc ?_
      have h := sp_onk (i := .aload_n 0) (by decide +kernel) rfl h
      obtain ⟨r1, w2, hc, h⟩ := sp_callV (jj := 59) (mj := 23) (n := 0) (v := .ref 23) (args := []) (ls' := [.ref 23, pm_dead]) (by decide +kernel) (by decide +kernel) rfl rfl rfl h
      refine ⟨r1, w2, hc, fun er hSw2 => ?_⟩
      subst er
      have h : PS X k 29 130 [.ref 23, .int i1, .int i2, .int i3, .int i4] [] w2 r w' := h
      have h := sp_onk (i := .aload_n 0) (by decide +kernel) rfl h
      have h := sp_getI (jj := 53) (ci := 4) (n := 10) (by decide +kernel) (by decide +kernel) (by decide +kernel) hSw2 h
      rcases sp_if_ne (mi := 29) (pc := 134) (off := 9) (t := 143) (by decide +kernel) (by decide) rfl h with ⟨hc, h⟩ | ⟨hc, h⟩
      · refine ite_f hc ?_
        exact h
      · refine ite_t (Classical.not_not.mp hc) ?_
        have h := sp_onk (i := .aload_n 0) (by decide +kernel) rfl h
        have h := sp_onk (i := .iload_n 2) (by decide +kernel) rfl h
        have h := sp_onk (i := .iload_n 3) (by decide +kernel) rfl h
        obtain ⟨r3, w4, hc, h⟩ := sp_callV (jj := 95) (mj := 49) (n := 2) (v := .ref 23) (args := [.int i3, .int i2]) (ls' := [.ref 23, .int i2, .int i3]) (by decide +kernel) (by decide +kernel) rfl rfl rfl h
        refine ⟨r3, w4, hc, fun er hSw4 => ?_⟩
        subst er
        have h : PS X k 29 143 [.ref 23, .int i1, .int i2, .int i3, .int i4] [] w4 r w' := h
        exact h
    · refine ite_f hc ?_
      exact h
set_option maxRecDepth 20000 in
set_option maxHeartbeats 2000000 in
theorem U29_124 {X : pm_X} {k : Nat} {w w' : pm_W} {r : Option Value} {i1 : Int32} {i2 : Int32} {i3 : Int32} {i4 : Int32} (hS : SK w) (h : PS X (k + 1) 29 124 [.ref 23, .int i1, .int i2, .int i3, .int i4] [] w r w') : r = some (.int 0) ∧ w' = w := by
  have h := sp_iconst1 (n := 0) (v := 0) (by decide +kernel) (by decide +kernel) h
  exact sp_iret (by decide +kernel) h
set_option maxRecDepth 20000 in
set_option maxHeartbeats 2000000 in
theorem U29_143 {X : pm_X} {k : Nat} {w w' : pm_W} {r : Option Value} {i1 : Int32} {i2 : Int32} {i3 : Int32} {i4 : Int32} (hS : SK w) (h : PS X (k + 1) 29 143 [.ref 23, .int i1, .int i2, .int i3, .int i4] [] w r w') : r = some (.int 1) ∧ w' = w := by
  have h := sp_iconst1 (n := 1) (v := 1) (by decide +kernel) (by decide +kernel) h
  exact sp_iret (by decide +kernel) h
set_option maxRecDepth 20000 in
set_option maxHeartbeats 2000000 in
theorem U49_0 {X : pm_X} {k : Nat} {w w' : pm_W} {r : Option Value} {p1 : Int32} {p2 : Int32} (hS : SK w) (h : PS X (k + 1) 49 0 [.ref 23, .int p1, .int p2] [] w r w') : ∃ (r1 : Option Value) (w2 : pm_W), PS X k 45 0 [.int p1] [] w r1 w2 ∧ (∀ x3 : Int32, r1 = some (.int x3) → SK w2 → (if x3 = 0 then (if p1 = 6 then (aI w2 31 0 ∧ (∀ w4 : pm_W, w4 = sI w2 24 0 (aG w2 31 0) → (PS X k 49 283 [.ref 23, .int p1, .int p2] [] w4 r w'))) else (if p1 = 7 then (aI w2 31 0 ∧ (aI w2 31 1 ∧ (∀ w5 : pm_W, w5 = sI w2 23 9 (if (gI w2 23 9) < (if (aG w2 31 0) < (aG w2 31 1) then (aG w2 31 1) else (aG w2 31 0)) then (if (aG w2 31 0) < (aG w2 31 1) then (aG w2 31 1) else (aG w2 31 0)) else (gI w2 23 9)) → (aI w5 31 0 ∧ (aI w5 31 1 ∧ (∃ (r6 : Option Value) (w7 : pm_W), PS X k 52 0 [.int (aG w5 31 0), .int (aG w5 31 1)] [] w5 r6 w7 ∧ (∀ x8 : Int32, r6 = some (.int x8) → SK w7 → (aI w7 31 2 ∧ (aI w7 25 x8 ∧ (∀ w9 : pm_W, w9 = aS w7 25 x8 (aG w7 31 2) → (PS X k 49 283 [.ref 23, .int p1, .int p2] [] w9 r w'))))))))))) else (if p1 = 8 then (aI w2 31 0 ∧ (∃ (r10 : Option Value) (w11 : pm_W), PS X k 53 0 [.ref 24, .int (aG w2 31 0), pm_dead, pm_dead] [] w2 r10 w11 ∧ (r10 = none → SK w11 → (PS X k 49 283 [.ref 23, .int p1, .int p2] [] w11 r w')))) else (if p1 = 9 then (aI w2 31 0 ∧ (∀ w12 : pm_W, w12 = sI w2 23 9 (if (gI w2 23 9) < (aG w2 31 0) then (aG w2 31 0) else (gI w2 23 9)) → (aI w12 31 0 ∧ (aI w12 31 1 ∧ (aI w12 26 (aG w12 31 0) ∧ (∀ w13 : pm_W, w13 = aS w12 26 (aG w12 31 0) (aG w12 31 1) → (PS X k 49 283 [.ref 23, .int p1, .int p2] [] w13 r w'))))))) else (if p1 = 10 then (aI w2 31 0 ∧ (∀ w14 : pm_W, w14 = sI w2 23 9 (if (gI w2 23 9) < (aG w2 31 0) then (aG w2 31 0) else (gI w2 23 9)) → (aI w14 31 0 ∧ (aI w14 31 1 ∧ (aI w14 27 (aG w14 31 0) ∧ (∀ w15 : pm_W, w15 = aS w14 27 (aG w14 31 0) (aG w14 31 1) → (PS X k 49 283 [.ref 23, .int p1, .int p2] [] w15 r w'))))))) else (if p1 = 11 then (aI w2 31 0 ∧ (∀ w16 : pm_W, w16 = sI w2 24 1 (aG w2 31 0) → (PS X k 49 283 [.ref 23, .int p1, .int p2] [] w16 r w'))) else (aI w2 31 0 ∧ (aI w2 31 1 ∧ (∀ w17 : pm_W, w17 = sI w2 23 9 (if (gI w2 23 9) < (if (aG w2 31 0) < (aG w2 31 1) then (aG w2 31 1) else (aG w2 31 0)) then (if (aG w2 31 0) < (aG w2 31 1) then (aG w2 31 1) else (aG w2 31 0)) else (gI w2 23 9)) → (∃ (r18 : Option Value) (w19 : pm_W), PS X k 54 0 [.ref 24, .ref 31] [] w17 r18 w19 ∧ (r18 = none → SK w19 → (PS X k 49 283 [.ref 23, .int p1, .int p2] [] w19 r w')))))))))))) else (∃ (r20 : Option Value) (w21 : pm_W), PS X k 50 0 [.ref 29, .int p1, .ref 31, .int p2, pm_dead, pm_dead] [] w2 r20 w21 ∧ (r20 = none → SK w21 → (r = none ∧ w' = w21))))) := by
  have h := sp_one (i := .iload_n 1) (by decide +kernel) rfl h
  obtain ⟨r1, w2, hc, h⟩ := sp_callS (jj := 101) (mj := 45) (n := 1) (args := [.int p1]) (ls' := [.int p1]) (by decide +kernel) (by decide +kernel) (by decide +kernel) rfl rfl rfl h
  refine ⟨r1, w2, hc, fun x3 er hSw2 => ?_⟩
  subst er
  have h : PS X k 49 4 [.ref 23, .int p1, .int p2] [.int x3] w2 r w' := h
  rcases sp_if_eq (mi := 49) (pc := 4) (off := 17) (t := 21) (by decide +kernel) (by decide) rfl h with ⟨hc, h⟩ | ⟨hc, h⟩
  · refine ite_t hc ?_
    have h := sp_onk (i := .iload_n 1) (by decide +kernel) rfl h
    rcases Classical.em (p1 = 6) with hc6 | hc6
    · refine ite_t hc6 ?_
      have h := sp_tabIn (mi := 49) (pc := 22) (q := 6) (off := 38) (t := 60) (df := 224) (lo := 6) (hi := 11) (offs := #[38, 54, 112, 128, 168, 208]) (by decide +kernel) (by rw [hc6]; decide +kernel) (by decide) (by decide +kernel) (by decide) rfl h
      have h := sp_onk (i := .aload_n 0) (by decide +kernel) rfl h
      have h := sp_getK (jj := 12) (ci := 4) (n := 0) (b := 24) (by decide +kernel) (by decide +kernel) (by decide +kernel) (by decide +kernel) (by decide) hSw2 h
      have h := sp_onk (i := .aload_n 0) (by decide +kernel) rfl h
      have h := sp_getK (jj := 25) (ci := 4) (n := 2) (b := 31) (by decide +kernel) (by decide +kernel) (by decide +kernel) (by decide +kernel) (by decide) hSw2 h
      have h := sp_iconst (n := 0) (v := 0) (by decide +kernel) (by decide +kernel) h
      obtain ⟨hi, h⟩ := sp_iald (by decide +kernel) h
      refine ⟨hi, ?_⟩
      have h := sp_putI (jj := 72) (ci := 9) (n := 0) (ty := .int) (by decide +kernel) (by decide +kernel) (by decide +kernel) hSw2 h
      intro w4 ew4
      rw [← ew4] at h
      have hSw4 : SK w4 := by rw [ew4]; exact SK_sI hSw2
      have h := sp_goto (mi := 49) (pc := 73) (off := 210) (t := 283) (by decide +kernel) (by decide) rfl h
      exact h
    refine ite_f hc6 ?_
    rcases Classical.em (p1 = 7) with hc7 | hc7
    · refine ite_t hc7 ?_
      have h := sp_tabIn (mi := 49) (pc := 22) (q := 7) (off := 54) (t := 76) (df := 224) (lo := 6) (hi := 11) (offs := #[38, 54, 112, 128, 168, 208]) (by decide +kernel) (by rw [hc7]; decide +kernel) (by decide) (by decide +kernel) (by decide) rfl h
      have h := sp_onk (i := .aload_n 0) (by decide +kernel) rfl h
      have h := sp_onk (i := .aload_n 0) (by decide +kernel) rfl h
      have h := sp_getI (jj := 50) (ci := 4) (n := 9) (by decide +kernel) (by decide +kernel) (by decide +kernel) hSw2 h
      have h := sp_onk (i := .aload_n 0) (by decide +kernel) rfl h
      have h := sp_getK (jj := 25) (ci := 4) (n := 2) (b := 31) (by decide +kernel) (by decide +kernel) (by decide +kernel) (by decide +kernel) (by decide) hSw2 h
      have h := sp_iconst (n := 0) (v := 0) (by decide +kernel) (by decide +kernel) h
      obtain ⟨hi, h⟩ := sp_iald (by decide +kernel) h
      refine ⟨hi, ?_⟩
      have h := sp_onk (i := .aload_n 0) (by decide +kernel) rfl h
      have h := sp_getK (jj := 25) (ci := 4) (n := 2) (b := 31) (by decide +kernel) (by decide +kernel) (by decide +kernel) (by decide +kernel) (by decide) hSw2 h
      have h := sp_iconst (n := 1) (v := 1) (by decide +kernel) (by decide +kernel) h
      obtain ⟨hi, h⟩ := sp_iald (by decide +kernel) h
      refine ⟨hi, ?_⟩
      have h := sp_max (j := 121) (by decide +kernel) (by decide +kernel) (by decide +kernel) h
      have h := sp_max (j := 121) (by decide +kernel) (by decide +kernel) (by decide +kernel) h
      have h := sp_putI (jj := 50) (ci := 4) (n := 9) (ty := .int) (by decide +kernel) (by decide +kernel) (by decide +kernel) hSw2 h
      intro w5 ew5
      rw [← ew5] at h
      have hSw5 : SK w5 := by rw [ew5]; exact SK_sI hSw2
      have h := sp_onk (i := .aload_n 0) (by decide +kernel) rfl h
      have h := sp_getK (jj := 12) (ci := 4) (n := 0) (b := 24) (by decide +kernel) (by decide +kernel) (by decide +kernel) (by decide +kernel) (by decide) hSw5 h
      have h := sp_getK (jj := 124) (ci := 9) (n := 3) (b := 25) (by decide +kernel) (by decide +kernel) (by decide +kernel) (by decide +kernel) (by decide) hSw5 h
      have h := sp_onk (i := .aload_n 0) (by decide +kernel) rfl h
      have h := sp_getK (jj := 25) (ci := 4) (n := 2) (b := 31) (by decide +kernel) (by decide +kernel) (by decide +kernel) (by decide +kernel) (by decide) hSw5 h
      have h := sp_iconst (n := 0) (v := 0) (by decide +kernel) (by decide +kernel) h
      obtain ⟨hi, h⟩ := sp_iald (by decide +kernel) h
      refine ⟨hi, ?_⟩
      have h := sp_onk (i := .aload_n 0) (by decide +kernel) rfl h
      have h := sp_getK (jj := 25) (ci := 4) (n := 2) (b := 31) (by decide +kernel) (by decide +kernel) (by decide +kernel) (by decide +kernel) (by decide) hSw5 h
      have h := sp_iconst (n := 1) (v := 1) (by decide +kernel) (by decide +kernel) h
      obtain ⟨hi, h⟩ := sp_iald (by decide +kernel) h
      refine ⟨hi, ?_⟩
      obtain ⟨r6, w7, hc, h⟩ := sp_callS (jj := 127) (mj := 52) (n := 2) (args := [.int (aG w5 31 1), .int (aG w5 31 0)]) (ls' := [.int (aG w5 31 0), .int (aG w5 31 1)]) (by decide +kernel) (by decide +kernel) (by decide +kernel) rfl rfl rfl h
      refine ⟨r6, w7, hc, fun x8 er hSw7 => ?_⟩
      subst er
      have h : PS X k 49 124 [.ref 23, .int p1, .int p2] [.int x8, .ref 25] w7 r w' := h
      have h := sp_onk (i := .aload_n 0) (by decide +kernel) rfl h
      have h := sp_getK (jj := 25) (ci := 4) (n := 2) (b := 31) (by decide +kernel) (by decide +kernel) (by decide +kernel) (by decide +kernel) (by decide) hSw7 h
      have h := sp_iconst (n := 2) (v := 2) (by decide +kernel) (by decide +kernel) h
      obtain ⟨hi, h⟩ := sp_iald (by decide +kernel) h
      refine ⟨hi, ?_⟩
      obtain ⟨hi, h⟩ := sp_iast (by decide +kernel) h
      refine ⟨hi, ?_⟩
      intro w9 ew9
      rw [← ew9] at h
      have hSw9 : SK w9 := by rw [ew9]; exact SK_aS hSw7
      have h := sp_goto (mi := 49) (pc := 131) (off := 152) (t := 283) (by decide +kernel) (by decide) rfl h
      exact h
    refine ite_f hc7 ?_
    rcases Classical.em (p1 = 8) with hc8 | hc8
    · refine ite_t hc8 ?_
      have h := sp_tabIn (mi := 49) (pc := 22) (q := 8) (off := 112) (t := 134) (df := 224) (lo := 6) (hi := 11) (offs := #[38, 54, 112, 128, 168, 208]) (by decide +kernel) (by rw [hc8]; decide +kernel) (by decide) (by decide +kernel) (by decide) rfl h
      have h := sp_onk (i := .aload_n 0) (by decide +kernel) rfl h
      have h := sp_getK (jj := 12) (ci := 4) (n := 0) (b := 24) (by decide +kernel) (by decide +kernel) (by decide +kernel) (by decide +kernel) (by decide) hSw2 h
      have h := sp_onk (i := .aload_n 0) (by decide +kernel) rfl h
      have h := sp_getK (jj := 25) (ci := 4) (n := 2) (b := 31) (by decide +kernel) (by decide +kernel) (by decide +kernel) (by decide +kernel) (by decide) hSw2 h
      have h := sp_iconst (n := 0) (v := 0) (by decide +kernel) (by decide +kernel) h
      obtain ⟨hi, h⟩ := sp_iald (by decide +kernel) h
      refine ⟨hi, ?_⟩
      obtain ⟨r10, w11, hc, h⟩ := sp_callV (jj := 130) (mj := 53) (n := 1) (v := .ref 24) (args := [.int (aG w2 31 0)]) (ls' := [.ref 24, .int (aG w2 31 0), pm_dead, pm_dead]) (by decide +kernel) (by decide +kernel) rfl rfl rfl h
      refine ⟨r10, w11, hc, fun er hSw11 => ?_⟩
      subst er
      have h : PS X k 49 147 [.ref 23, .int p1, .int p2] [] w11 r w' := h
      have h := sp_goto (mi := 49) (pc := 147) (off := 136) (t := 283) (by decide +kernel) (by decide) rfl h
      exact h
    refine ite_f hc8 ?_
    rcases Classical.em (p1 = 9) with hc9 | hc9
    · refine ite_t hc9 ?_
      have h := sp_tabIn (mi := 49) (pc := 22) (q := 9) (off := 128) (t := 150) (df := 224) (lo := 6) (hi := 11) (offs := #[38, 54, 112, 128, 168, 208]) (by decide +kernel) (by rw [hc9]; decide +kernel) (by decide) (by decide +kernel) (by decide) rfl h
      have h := sp_onk (i := .aload_n 0) (by decide +kernel) rfl h
      have h := sp_onk (i := .aload_n 0) (by decide +kernel) rfl h
      have h := sp_getI (jj := 50) (ci := 4) (n := 9) (by decide +kernel) (by decide +kernel) (by decide +kernel) hSw2 h
      have h := sp_onk (i := .aload_n 0) (by decide +kernel) rfl h
      have h := sp_getK (jj := 25) (ci := 4) (n := 2) (b := 31) (by decide +kernel) (by decide +kernel) (by decide +kernel) (by decide +kernel) (by decide) hSw2 h
      have h := sp_iconst (n := 0) (v := 0) (by decide +kernel) (by decide +kernel) h
      obtain ⟨hi, h⟩ := sp_iald (by decide +kernel) h
      refine ⟨hi, ?_⟩
      have h := sp_max (j := 121) (by decide +kernel) (by decide +kernel) (by decide +kernel) h
      have h := sp_putI (jj := 50) (ci := 4) (n := 9) (ty := .int) (by decide +kernel) (by decide +kernel) (by decide +kernel) hSw2 h
      intro w12 ew12
      rw [← ew12] at h
      have hSw12 : SK w12 := by rw [ew12]; exact SK_sI hSw2
      have h := sp_onk (i := .aload_n 0) (by decide +kernel) rfl h
      have h := sp_getK (jj := 12) (ci := 4) (n := 0) (b := 24) (by decide +kernel) (by decide +kernel) (by decide +kernel) (by decide +kernel) (by decide) hSw12 h
      have h := sp_getK (jj := 134) (ci := 9) (n := 4) (b := 26) (by decide +kernel) (by decide +kernel) (by decide +kernel) (by decide +kernel) (by decide) hSw12 h
      have h := sp_onk (i := .aload_n 0) (by decide +kernel) rfl h
      have h := sp_getK (jj := 25) (ci := 4) (n := 2) (b := 31) (by decide +kernel) (by decide +kernel) (by decide +kernel) (by decide +kernel) (by decide) hSw12 h
      have h := sp_iconst (n := 0) (v := 0) (by decide +kernel) (by decide +kernel) h
      obtain ⟨hi, h⟩ := sp_iald (by decide +kernel) h
      refine ⟨hi, ?_⟩
      have h := sp_onk (i := .aload_n 0) (by decide +kernel) rfl h
      have h := sp_getK (jj := 25) (ci := 4) (n := 2) (b := 31) (by decide +kernel) (by decide +kernel) (by decide +kernel) (by decide +kernel) (by decide) hSw12 h
      have h := sp_iconst (n := 1) (v := 1) (by decide +kernel) (by decide +kernel) h
      obtain ⟨hi, h⟩ := sp_iald (by decide +kernel) h
      refine ⟨hi, ?_⟩
      obtain ⟨hi, h⟩ := sp_iast (by decide +kernel) h
      refine ⟨hi, ?_⟩
      intro w13 ew13
      rw [← ew13] at h
      have hSw13 : SK w13 := by rw [ew13]; exact SK_aS hSw12
      have h := sp_goto (mi := 49) (pc := 187) (off := 96) (t := 283) (by decide +kernel) (by decide) rfl h
      exact h
    refine ite_f hc9 ?_
    rcases Classical.em (p1 = 10) with hc10 | hc10
    · refine ite_t hc10 ?_
      have h := sp_tabIn (mi := 49) (pc := 22) (q := 10) (off := 168) (t := 190) (df := 224) (lo := 6) (hi := 11) (offs := #[38, 54, 112, 128, 168, 208]) (by decide +kernel) (by rw [hc10]; decide +kernel) (by decide) (by decide +kernel) (by decide) rfl h
      have h := sp_onk (i := .aload_n 0) (by decide +kernel) rfl h
      have h := sp_onk (i := .aload_n 0) (by decide +kernel) rfl h
      have h := sp_getI (jj := 50) (ci := 4) (n := 9) (by decide +kernel) (by decide +kernel) (by decide +kernel) hSw2 h
      have h := sp_onk (i := .aload_n 0) (by decide +kernel) rfl h
      have h := sp_getK (jj := 25) (ci := 4) (n := 2) (b := 31) (by decide +kernel) (by decide +kernel) (by decide +kernel) (by decide +kernel) (by decide) hSw2 h
      have h := sp_iconst (n := 0) (v := 0) (by decide +kernel) (by decide +kernel) h
      obtain ⟨hi, h⟩ := sp_iald (by decide +kernel) h
      refine ⟨hi, ?_⟩
      have h := sp_max (j := 121) (by decide +kernel) (by decide +kernel) (by decide +kernel) h
      have h := sp_putI (jj := 50) (ci := 4) (n := 9) (ty := .int) (by decide +kernel) (by decide +kernel) (by decide +kernel) hSw2 h
      intro w14 ew14
      rw [← ew14] at h
      have hSw14 : SK w14 := by rw [ew14]; exact SK_sI hSw2
      have h := sp_onk (i := .aload_n 0) (by decide +kernel) rfl h
      have h := sp_getK (jj := 12) (ci := 4) (n := 0) (b := 24) (by decide +kernel) (by decide +kernel) (by decide +kernel) (by decide +kernel) (by decide) hSw14 h
      have h := sp_getK (jj := 137) (ci := 9) (n := 5) (b := 27) (by decide +kernel) (by decide +kernel) (by decide +kernel) (by decide +kernel) (by decide) hSw14 h
      have h := sp_onk (i := .aload_n 0) (by decide +kernel) rfl h
      have h := sp_getK (jj := 25) (ci := 4) (n := 2) (b := 31) (by decide +kernel) (by decide +kernel) (by decide +kernel) (by decide +kernel) (by decide) hSw14 h
      have h := sp_iconst (n := 0) (v := 0) (by decide +kernel) (by decide +kernel) h
      obtain ⟨hi, h⟩ := sp_iald (by decide +kernel) h
      refine ⟨hi, ?_⟩
      have h := sp_onk (i := .aload_n 0) (by decide +kernel) rfl h
      have h := sp_getK (jj := 25) (ci := 4) (n := 2) (b := 31) (by decide +kernel) (by decide +kernel) (by decide +kernel) (by decide +kernel) (by decide) hSw14 h
      have h := sp_iconst (n := 1) (v := 1) (by decide +kernel) (by decide +kernel) h
      obtain ⟨hi, h⟩ := sp_iald (by decide +kernel) h
      refine ⟨hi, ?_⟩
      obtain ⟨hi, h⟩ := sp_iast (by decide +kernel) h
      refine ⟨hi, ?_⟩
      intro w15 ew15
      rw [← ew15] at h
      have hSw15 : SK w15 := by rw [ew15]; exact SK_aS hSw14
      have h := sp_goto (mi := 49) (pc := 227) (off := 56) (t := 283) (by decide +kernel) (by decide) rfl h
      exact h
    refine ite_f hc10 ?_
    rcases Classical.em (p1 = 11) with hc11 | hc11
    · refine ite_t hc11 ?_
      have h := sp_tabIn (mi := 49) (pc := 22) (q := 11) (off := 208) (t := 230) (df := 224) (lo := 6) (hi := 11) (offs := #[38, 54, 112, 128, 168, 208]) (by decide +kernel) (by rw [hc11]; decide +kernel) (by decide) (by decide +kernel) (by decide) rfl h
      have h := sp_onk (i := .aload_n 0) (by decide +kernel) rfl h
      have h := sp_getK (jj := 12) (ci := 4) (n := 0) (b := 24) (by decide +kernel) (by decide +kernel) (by decide +kernel) (by decide +kernel) (by decide) hSw2 h
      have h := sp_onk (i := .aload_n 0) (by decide +kernel) rfl h
      have h := sp_getK (jj := 25) (ci := 4) (n := 2) (b := 31) (by decide +kernel) (by decide +kernel) (by decide +kernel) (by decide +kernel) (by decide) hSw2 h
      have h := sp_iconst (n := 0) (v := 0) (by decide +kernel) (by decide +kernel) h
      obtain ⟨hi, h⟩ := sp_iald (by decide +kernel) h
      refine ⟨hi, ?_⟩
      have h := sp_putI (jj := 140) (ci := 9) (n := 1) (ty := .int) (by decide +kernel) (by decide +kernel) (by decide +kernel) hSw2 h
      intro w16 ew16
      rw [← ew16] at h
      have hSw16 : SK w16 := by rw [ew16]; exact SK_sI hSw2
      have h := sp_goto (mi := 49) (pc := 243) (off := 40) (t := 283) (by decide +kernel) (by decide) rfl h
      exact h
    refine ite_f hc11 ?_
    have hout : p1.toInt < 6 ∨ 11 < p1.toInt := by
      have y6 : p1.toInt ≠ 6 := fun q => hc6 (Int32.toInt_inj.mp (by rw [q]; decide +kernel))
      have y7 : p1.toInt ≠ 7 := fun q => hc7 (Int32.toInt_inj.mp (by rw [q]; decide +kernel))
      have y8 : p1.toInt ≠ 8 := fun q => hc8 (Int32.toInt_inj.mp (by rw [q]; decide +kernel))
      have y9 : p1.toInt ≠ 9 := fun q => hc9 (Int32.toInt_inj.mp (by rw [q]; decide +kernel))
      have y10 : p1.toInt ≠ 10 := fun q => hc10 (Int32.toInt_inj.mp (by rw [q]; decide +kernel))
      have y11 : p1.toInt ≠ 11 := fun q => hc11 (Int32.toInt_inj.mp (by rw [q]; decide +kernel))
      omega
    have h := sp_tabOut (mi := 49) (pc := 22) (t := 246) (df := 224) (lo := 6) (hi := 11) (offs := #[38, 54, 112, 128, 168, 208]) (by decide +kernel) hout (by decide) rfl h
    have h := sp_onk (i := .aload_n 0) (by decide +kernel) rfl h
    have h := sp_onk (i := .aload_n 0) (by decide +kernel) rfl h
    have h := sp_getI (jj := 50) (ci := 4) (n := 9) (by decide +kernel) (by decide +kernel) (by decide +kernel) hSw2 h
    have h := sp_onk (i := .aload_n 0) (by decide +kernel) rfl h
    have h := sp_getK (jj := 25) (ci := 4) (n := 2) (b := 31) (by decide +kernel) (by decide +kernel) (by decide +kernel) (by decide +kernel) (by decide) hSw2 h
    have h := sp_iconst (n := 0) (v := 0) (by decide +kernel) (by decide +kernel) h
    obtain ⟨hi, h⟩ := sp_iald (by decide +kernel) h
    refine ⟨hi, ?_⟩
    have h := sp_onk (i := .aload_n 0) (by decide +kernel) rfl h
    have h := sp_getK (jj := 25) (ci := 4) (n := 2) (b := 31) (by decide +kernel) (by decide +kernel) (by decide +kernel) (by decide +kernel) (by decide) hSw2 h
    have h := sp_iconst (n := 1) (v := 1) (by decide +kernel) (by decide +kernel) h
    obtain ⟨hi, h⟩ := sp_iald (by decide +kernel) h
    refine ⟨hi, ?_⟩
    have h := sp_max (j := 121) (by decide +kernel) (by decide +kernel) (by decide +kernel) h
    have h := sp_max (j := 121) (by decide +kernel) (by decide +kernel) (by decide +kernel) h
    have h := sp_putI (jj := 50) (ci := 4) (n := 9) (ty := .int) (by decide +kernel) (by decide +kernel) (by decide +kernel) hSw2 h
    intro w17 ew17
    rw [← ew17] at h
    have hSw17 : SK w17 := by rw [ew17]; exact SK_sI hSw2
    have h := sp_onk (i := .aload_n 0) (by decide +kernel) rfl h
    have h := sp_getK (jj := 12) (ci := 4) (n := 0) (b := 24) (by decide +kernel) (by decide +kernel) (by decide +kernel) (by decide +kernel) (by decide) hSw17 h
    have h := sp_onk (i := .aload_n 0) (by decide +kernel) rfl h
    have h := sp_getK (jj := 25) (ci := 4) (n := 2) (b := 31) (by decide +kernel) (by decide +kernel) (by decide +kernel) (by decide +kernel) (by decide) hSw17 h
    obtain ⟨r18, w19, hc, h⟩ := sp_callV (jj := 143) (mj := 54) (n := 1) (v := .ref 24) (args := [.ref 31]) (ls' := [.ref 24, .ref 31]) (by decide +kernel) (by decide +kernel) rfl rfl rfl h
    refine ⟨r18, w19, hc, fun er hSw19 => ?_⟩
    subst er
    have h : PS X k 49 283 [.ref 23, .int p1, .int p2] [] w19 r w' := h
    exact h
  · refine ite_f hc ?_
    have h := sp_onk (i := .aload_n 0) (by decide +kernel) rfl h
    have h := sp_getK (jj := 21) (ci := 4) (n := 1) (b := 29) (by decide +kernel) (by decide +kernel) (by decide +kernel) (by decide +kernel) (by decide) hSw2 h
    have h := sp_onk (i := .iload_n 1) (by decide +kernel) rfl h
    have h := sp_onk (i := .aload_n 0) (by decide +kernel) rfl h
    have h := sp_getK (jj := 25) (ci := 4) (n := 2) (b := 31) (by decide +kernel) (by decide +kernel) (by decide +kernel) (by decide +kernel) (by decide) hSw2 h
    have h := sp_onk (i := .iload_n 2) (by decide +kernel) rfl h
    obtain ⟨r20, w21, hc, h⟩ := sp_callV (jj := 117) (mj := 50) (n := 3) (v := .ref 29) (args := [.int p2, .ref 31, .int p1]) (ls' := [.ref 29, .int p1, .ref 31, .int p2, pm_dead, pm_dead]) (by decide +kernel) (by decide +kernel) rfl rfl rfl h
    refine ⟨r20, w21, hc, fun er hSw21 => ?_⟩
    subst er
    have h : PS X k 49 20 [.ref 23, .int p1, .int p2] [] w21 r w' := h
    exact sp_vret (by decide +kernel) h
set_option maxRecDepth 20000 in
set_option maxHeartbeats 2000000 in
theorem U49_283 {X : pm_X} {k : Nat} {w w' : pm_W} {r : Option Value} {i1 : Int32} {i2 : Int32} (hS : SK w) (h : PS X (k + 1) 49 283 [.ref 23, .int i1, .int i2] [] w r w') : r = none ∧ w' = w := by
  exact sp_vret (by decide +kernel) h
set_option maxRecDepth 20000 in
set_option maxHeartbeats 2000000 in
theorem U50_0 {X : pm_X} {k : Nat} {w w' : pm_W} {r : Option Value} {a : Nat} {p1 : Int32} {q2 : Nat} {p3 : Int32} (hS : SK w) (h : PS X (k + 1) 50 0 [.ref a, .int p1, .ref q2, .int p3, pm_dead, pm_dead] [] w r w') : if (gI w a 0) < 30 then (aI w (gR w a 1) (((gI w a 0) * 9) + 0) ∧ (∀ w1 : pm_W, w1 = aS w (gR w a 1) (((gI w a 0) * 9) + 0) p1 → (PS X k 50 32 [.ref a, .int p1, .ref q2, .int p3, .int ((gI w a 0) * 9), .int 0] [] w1 r w'))) else (r = none ∧ w' = w) := by
  have h := sp_one (i := .aload_n 0) (by decide +kernel) rfl h
  have h := sp_getI (jj := 15) (ci := 5) (n := 0) (by decide +kernel) (by decide +kernel) (by decide +kernel) hS h
  have h := sp_bipush (n := 30) (v := 30) (by decide +kernel) (by decide +kernel) h
  rcases sp_icmp_lt (mi := 50) (pc := 6) (off := 4) (t := 10) (by decide +kernel) (by decide) rfl h with ⟨hc, h⟩ | ⟨hc, h⟩
  · refine ite_t hc ?_
    have h := sp_onk (i := .aload_n 0) (by decide +kernel) rfl h
    have h := sp_getI (jj := 15) (ci := 5) (n := 0) (by decide +kernel) (by decide +kernel) (by decide +kernel) hS h
    have h := sp_bipush (n := 9) (v := 9) (by decide +kernel) (by decide +kernel) h
    have h := sp_onk (i := .imul) (by decide +kernel) rfl h
    have h := sp_istore (j := 4) (ls' := [.ref a, .int p1, .ref q2, .int p3, .int ((gI w a 0) * 9), pm_dead]) (by decide +kernel) (Nat.le_of_ble_eq_true rfl) rfl h
    have h := sp_onk (i := .aload_n 0) (by decide +kernel) rfl h
    have h := sp_getR (jj := 9) (ci := 5) (n := 1) (by decide +kernel) (by decide +kernel) (by decide +kernel) hS h
    have h := sp_onk (i := .iload 4) (by decide +kernel) rfl h
    have h := sp_iconst (n := 0) (v := 0) (by decide +kernel) (by decide +kernel) h
    have h := sp_onk (i := .iadd) (by decide +kernel) rfl h
    have h := sp_onk (i := .iload_n 1) (by decide +kernel) rfl h
    obtain ⟨hi, h⟩ := sp_iast (by decide +kernel) h
    refine ⟨hi, ?_⟩
    intro w1 ew1
    rw [← ew1] at h
    have hSw1 : SK w1 := by rw [ew1]; exact SK_aS hS
    have h := sp_iconst (n := 0) (v := 0) (by decide +kernel) (by decide +kernel) h
    have h := sp_istore (j := 5) (ls' := [.ref a, .int p1, .ref q2, .int p3, .int ((gI w a 0) * 9), .int 0]) (by decide +kernel) (Nat.le_of_ble_eq_true rfl) rfl h
    exact h
  · refine ite_f hc ?_
    exact sp_vret (by decide +kernel) h
set_option maxRecDepth 20000 in
set_option maxHeartbeats 2000000 in
theorem U50_32 {X : pm_X} {k : Nat} {w w' : pm_W} {r : Option Value} {o0 : Nat} {i1 : Int32} {o2 : Nat} {i3 : Int32} {i4 : Int32} {i5 : Int32} (hS : SK w) (h : PS X (k + 1) 50 32 [.ref o0, .int i1, .ref o2, .int i3, .int i4, .int i5] [] w r w') : if 8 ≤ i5 then (∀ w1 : pm_W, w1 = sI w o0 0 ((gI w o0 0) + 1) → (r = none ∧ w' = w1)) else (if i3 ≤ i5 then (aI w (gR w o0 1) ((i4 + 1) + i5) ∧ (∀ w2 : pm_W, w2 = aS w (gR w o0 1) ((i4 + 1) + i5) (-1) → (PS X k 50 32 [.ref o0, .int i1, .ref o2, .int i3, .int i4, .int (i5 + 1)] [] w2 r w'))) else (aI w o2 i5 ∧ (aI w (gR w o0 1) ((i4 + 1) + i5) ∧ (∀ w3 : pm_W, w3 = aS w (gR w o0 1) ((i4 + 1) + i5) (aG w o2 i5) → (PS X k 50 32 [.ref o0, .int i1, .ref o2, .int i3, .int i4, .int (i5 + 1)] [] w3 r w'))))) := by
  have h := sp_one (i := .iload 5) (by decide +kernel) rfl h
  have h := sp_bipush (n := 8) (v := 8) (by decide +kernel) (by decide +kernel) h
  rcases sp_icmp_ge (mi := 50) (pc := 36) (off := 35) (t := 71) (by decide +kernel) (by decide) rfl h with ⟨hc, h⟩ | ⟨hc, h⟩
  · refine ite_t hc ?_
    have h := sp_onk (i := .aload_n 0) (by decide +kernel) rfl h
    have h := sp_onk (i := .dup) (by decide +kernel) rfl h
    have h := sp_getI (jj := 15) (ci := 5) (n := 0) (by decide +kernel) (by decide +kernel) (by decide +kernel) hS h
    have h := sp_iconst (n := 1) (v := 1) (by decide +kernel) (by decide +kernel) h
    have h := sp_onk (i := .iadd) (by decide +kernel) rfl h
    have h := sp_putI (jj := 15) (ci := 5) (n := 0) (ty := .int) (by decide +kernel) (by decide +kernel) (by decide +kernel) hS h
    intro w1 ew1
    rw [← ew1] at h
    have hSw1 : SK w1 := by rw [ew1]; exact SK_sI hS
    exact sp_vret (by decide +kernel) h
  · refine ite_f hc ?_
    have h := sp_onk (i := .aload_n 0) (by decide +kernel) rfl h
    have h := sp_getR (jj := 9) (ci := 5) (n := 1) (by decide +kernel) (by decide +kernel) (by decide +kernel) hS h
    have h := sp_onk (i := .iload 4) (by decide +kernel) rfl h
    have h := sp_iconst (n := 1) (v := 1) (by decide +kernel) (by decide +kernel) h
    have h := sp_onk (i := .iadd) (by decide +kernel) rfl h
    have h := sp_onk (i := .iload 5) (by decide +kernel) rfl h
    have h := sp_onk (i := .iadd) (by decide +kernel) rfl h
    have h := sp_onk (i := .iload 5) (by decide +kernel) rfl h
    have h := sp_onk (i := .iload_n 3) (by decide +kernel) rfl h
    rcases sp_icmp_ge (mi := 50) (pc := 53) (off := 10) (t := 63) (by decide +kernel) (by decide) rfl h with ⟨hc, h⟩ | ⟨hc, h⟩
    · refine ite_t hc ?_
      have h := sp_iconst (n := (-1)) (v := (-1)) (by decide +kernel) (by decide +kernel) h
      obtain ⟨hi, h⟩ := sp_iast (by decide +kernel) h
      refine ⟨hi, ?_⟩
      intro w2 ew2
      rw [← ew2] at h
      have hSw2 : SK w2 := by rw [ew2]; exact SK_aS hS
      have h := sp_iinc (j := 5) (n := 1) (v := 1) (ls' := [.ref o0, .int i1, .ref o2, .int i3, .int i4, .int (i5 + 1)]) (by decide +kernel) rfl (by decide +kernel) rfl h
      have h := sp_goto (mi := 50) (pc := 68) (off := (-36)) (t := 32) (by decide +kernel) (by decide) rfl h
      exact h
    · refine ite_f hc ?_
      have h := sp_onk (i := .aload_n 2) (by decide +kernel) rfl h
      have h := sp_onk (i := .iload 5) (by decide +kernel) rfl h
      obtain ⟨hi, h⟩ := sp_iald (by decide +kernel) h
      refine ⟨hi, ?_⟩
      have h := sp_goto (mi := 50) (pc := 60) (off := 4) (t := 64) (by decide +kernel) (by decide) rfl h
      obtain ⟨hi, h⟩ := sp_iast (by decide +kernel) h
      refine ⟨hi, ?_⟩
      intro w3 ew3
      rw [← ew3] at h
      have hSw3 : SK w3 := by rw [ew3]; exact SK_aS hS
      have h := sp_iinc (j := 5) (n := 1) (v := 1) (ls' := [.ref o0, .int i1, .ref o2, .int i3, .int i4, .int (i5 + 1)]) (by decide +kernel) rfl (by decide +kernel) rfl h
      have h := sp_goto (mi := 50) (pc := 68) (off := (-36)) (t := 32) (by decide +kernel) (by decide) rfl h
      exact h
set_option maxRecDepth 20000 in
set_option maxHeartbeats 2000000 in
theorem U52_0 {X : pm_X} {k : Nat} {w w' : pm_W} {r : Option Value} {p1 : Int32} {p2 : Int32} (hS : SK w) (h : PS X (k + 1) 52 0 [.int p1, .int p2] [] w r w') : r = some (.int ((p1 * 9) + p2)) ∧ w' = w := by
  have h := sp_one (i := .iload_n 0) (by decide +kernel) rfl h
  have h := sp_bipush (n := 9) (v := 9) (by decide +kernel) (by decide +kernel) h
  have h := sp_onk (i := .imul) (by decide +kernel) rfl h
  have h := sp_onk (i := .iload_n 1) (by decide +kernel) rfl h
  have h := sp_onk (i := .iadd) (by decide +kernel) rfl h
  exact sp_iret (by decide +kernel) h
set_option maxRecDepth 20000 in
set_option maxHeartbeats 2000000 in
theorem U53_0 {X : pm_X} {k : Nat} {w w' : pm_W} {r : Option Value} {a : Nat} {p1 : Int32} (hS : SK w) (h : PS X (k + 1) 53 0 [.ref a, .int p1, pm_dead, pm_dead] [] w r w') : PS X k 53 2 [.ref a, .int p1, .int 0, pm_dead] [] w r w' := by
  have h := sp_iconst1 (n := 0) (v := 0) (by decide +kernel) (by decide +kernel) h
  have h := sp_istore_n (j := 2) (ls' := [.ref a, .int p1, .int 0, pm_dead]) (by decide +kernel) (Nat.le_of_ble_eq_true rfl) rfl h
  exact h
set_option maxRecDepth 20000 in
set_option maxHeartbeats 2000000 in
theorem U53_2 {X : pm_X} {k : Nat} {w w' : pm_W} {r : Option Value} {o0 : Nat} {i1 : Int32} {i2 : Int32} {u3 : Value} (hS : SK w) (h : PS X (k + 1) 53 2 [.ref o0, .int i1, .int i2, u3] [] w r w') : if 9 ≤ i2 then (r = none ∧ w' = w) else (PS X k 53 10 [.ref o0, .int i1, .int i2, .int 0] [] w r w') := by
  have h := sp_one (i := .iload_n 2) (by decide +kernel) rfl h
  have h := sp_bipush (n := 9) (v := 9) (by decide +kernel) (by decide +kernel) h
  rcases sp_icmp_ge (mi := 53) (pc := 5) (off := 43) (t := 48) (by decide +kernel) (by decide) rfl h with ⟨hc, h⟩ | ⟨hc, h⟩
  · refine ite_t hc ?_
    exact sp_vret (by decide +kernel) h
  · refine ite_f hc ?_
    have h := sp_iconst (n := 0) (v := 0) (by decide +kernel) (by decide +kernel) h
    have h := sp_istore_n (j := 3) (ls' := [.ref o0, .int i1, .int i2, .int 0]) (by decide +kernel) (Nat.le_of_ble_eq_true rfl) rfl h
    exact h
set_option maxRecDepth 20000 in
set_option maxHeartbeats 2000000 in
theorem U53_10 {X : pm_X} {k : Nat} {w w' : pm_W} {r : Option Value} {o0 : Nat} {i1 : Int32} {i2 : Int32} {i3 : Int32} (hS : SK w) (h : PS X (k + 1) 53 10 [.ref o0, .int i1, .int i2, .int i3] [] w r w') : if 9 ≤ i3 then (PS X k 53 2 [.ref o0, .int i1, .int (i2 + 1), .int i3] [] w r w') else (∃ (r1 : Option Value) (w2 : pm_W), PS X k 52 0 [.int i2, .int i3] [] w r1 w2 ∧ (∀ x3 : Int32, r1 = some (.int x3) → SK w2 → (if i2 = i3 then (aI w2 (gR w o0 3) x3 ∧ (∀ w5 : pm_W, w5 = aS w2 (gR w o0 3) x3 0 → (PS X k 53 10 [.ref o0, .int i1, .int i2, .int (i3 + 1)] [] w5 r w'))) else (aI w2 (gR w o0 3) x3 ∧ (∀ w4 : pm_W, w4 = aS w2 (gR w o0 3) x3 i1 → (PS X k 53 10 [.ref o0, .int i1, .int i2, .int (i3 + 1)] [] w4 r w')))))) := by
  have h := sp_one (i := .iload_n 3) (by decide +kernel) rfl h
  have h := sp_bipush (n := 9) (v := 9) (by decide +kernel) (by decide +kernel) h
  rcases sp_icmp_ge (mi := 53) (pc := 13) (off := 29) (t := 42) (by decide +kernel) (by decide) rfl h with ⟨hc, h⟩ | ⟨hc, h⟩
  · refine ite_t hc ?_
    have h := sp_iinc (j := 2) (n := 1) (v := 1) (ls' := [.ref o0, .int i1, .int (i2 + 1), .int i3]) (by decide +kernel) rfl (by decide +kernel) rfl h
    have h := sp_goto (mi := 53) (pc := 45) (off := (-43)) (t := 2) (by decide +kernel) (by decide) rfl h
    exact h
  · refine ite_f hc ?_
    have h := sp_onk (i := .aload_n 0) (by decide +kernel) rfl h
    have h := sp_getR (jj := 15) (ci := 9) (n := 3) (by decide +kernel) (by decide +kernel) (by decide +kernel) hS h
    have h := sp_onk (i := .iload_n 2) (by decide +kernel) rfl h
    have h := sp_onk (i := .iload_n 3) (by decide +kernel) rfl h
    obtain ⟨r1, w2, hc, h⟩ := sp_callS (jj := 46) (mj := 52) (n := 2) (args := [.int i3, .int i2]) (ls' := [.int i2, .int i3]) (by decide +kernel) (by decide +kernel) (by decide +kernel) rfl rfl rfl h
    refine ⟨r1, w2, hc, fun x3 er hSw2 => ?_⟩
    subst er
    have h : PS X k 53 25 [.ref o0, .int i1, .int i2, .int i3] [.int x3, .ref (gR w o0 3)] w2 r w' := h
    have h := sp_onk (i := .iload_n 2) (by decide +kernel) rfl h
    have h := sp_onk (i := .iload_n 3) (by decide +kernel) rfl h
    rcases sp_icmp_ne (mi := 53) (pc := 27) (off := 7) (t := 34) (by decide +kernel) (by decide) rfl h with ⟨hc, h⟩ | ⟨hc, h⟩
    · refine ite_f hc ?_
      have h := sp_onk (i := .iload_n 1) (by decide +kernel) rfl h
      obtain ⟨hi, h⟩ := sp_iast (by decide +kernel) h
      refine ⟨hi, ?_⟩
      intro w4 ew4
      rw [← ew4] at h
      have hSw4 : SK w4 := by rw [ew4]; exact SK_aS hSw2
      have h := sp_iinc (j := 3) (n := 1) (v := 1) (ls' := [.ref o0, .int i1, .int i2, .int (i3 + 1)]) (by decide +kernel) rfl (by decide +kernel) rfl h
      have h := sp_goto (mi := 53) (pc := 39) (off := (-29)) (t := 10) (by decide +kernel) (by decide) rfl h
      exact h
    · refine ite_t (Classical.not_not.mp hc) ?_
      have h := sp_iconst (n := 0) (v := 0) (by decide +kernel) (by decide +kernel) h
      have h := sp_goto (mi := 53) (pc := 31) (off := 4) (t := 35) (by decide +kernel) (by decide) rfl h
      obtain ⟨hi, h⟩ := sp_iast (by decide +kernel) h
      refine ⟨hi, ?_⟩
      intro w5 ew5
      rw [← ew5] at h
      have hSw5 : SK w5 := by rw [ew5]; exact SK_aS hSw2
      have h := sp_iinc (j := 3) (n := 1) (v := 1) (ls' := [.ref o0, .int i1, .int i2, .int (i3 + 1)]) (by decide +kernel) rfl (by decide +kernel) rfl h
      have h := sp_goto (mi := 53) (pc := 39) (off := (-29)) (t := 10) (by decide +kernel) (by decide) rfl h
      exact h
set_option maxRecDepth 20000 in
set_option maxHeartbeats 2000000 in
theorem U54_0 {X : pm_X} {k : Nat} {w w' : pm_W} {r : Option Value} {a : Nat} {q1 : Nat} (hS : SK w) (h : PS X (k + 1) 54 0 [.ref a, .ref q1] [] w r w') : if 7 ≤ (gI w a 2) then (r = none ∧ w' = w) else (cpI w q1 (gR w a 6) 0 ((gI w a 2) * 4) 4 ∧ (∀ w1 : pm_W, w1 = cpS w q1 (gR w a 6) 0 ((gI w a 2) * 4) 4 → (∀ w2 : pm_W, w2 = sI w1 a 2 ((gI w1 a 2) + 1) → (r = none ∧ w' = w2)))) := by
  have h := sp_one (i := .aload_n 0) (by decide +kernel) rfl h
  have h := sp_getI (jj := 31) (ci := 9) (n := 2) (by decide +kernel) (by decide +kernel) (by decide +kernel) hS h
  have h := sp_bipush (n := 7) (v := 7) (by decide +kernel) (by decide +kernel) h
  rcases sp_icmp_ge (mi := 54) (pc := 6) (off := 29) (t := 35) (by decide +kernel) (by decide) rfl h with ⟨hc, h⟩ | ⟨hc, h⟩
  · refine ite_t hc ?_
    exact sp_vret (by decide +kernel) h
  · refine ite_f hc ?_
    have h := sp_onk (i := .aload_n 1) (by decide +kernel) rfl h
    have h := sp_iconst (n := 0) (v := 0) (by decide +kernel) (by decide +kernel) h
    have h := sp_onk (i := .aload_n 0) (by decide +kernel) rfl h
    have h := sp_getR (jj := 25) (ci := 9) (n := 6) (by decide +kernel) (by decide +kernel) (by decide +kernel) hS h
    have h := sp_onk (i := .aload_n 0) (by decide +kernel) rfl h
    have h := sp_getI (jj := 31) (ci := 9) (n := 2) (by decide +kernel) (by decide +kernel) (by decide +kernel) hS h
    have h := sp_iconst (n := 4) (v := 4) (by decide +kernel) (by decide +kernel) h
    have h := sp_onk (i := .imul) (by decide +kernel) rfl h
    have h := sp_iconst (n := 4) (v := 4) (by decide +kernel) (by decide +kernel) h
    obtain ⟨hi, h⟩ := sp_copy (j := 40) (by decide +kernel) (by decide +kernel) (by decide +kernel) h
    refine ⟨hi, ?_⟩
    intro w1 ew1
    rw [← ew1] at h
    have hSw1 : SK w1 := by rw [ew1]; exact SK_cpS hi hS
    have h := sp_onk (i := .aload_n 0) (by decide +kernel) rfl h
    have h := sp_onk (i := .dup) (by decide +kernel) rfl h
    have h := sp_getI (jj := 31) (ci := 9) (n := 2) (by decide +kernel) (by decide +kernel) (by decide +kernel) hSw1 h
    have h := sp_iconst (n := 1) (v := 1) (by decide +kernel) (by decide +kernel) h
    have h := sp_onk (i := .iadd) (by decide +kernel) rfl h
    have h := sp_putI (jj := 31) (ci := 9) (n := 2) (ty := .int) (by decide +kernel) (by decide +kernel) (by decide +kernel) hSw1 h
    intro w2 ew2
    rw [← ew2] at h
    have hSw2 : SK w2 := by rw [ew2]; exact SK_sI hSw1
    exact sp_vret (by decide +kernel) h
