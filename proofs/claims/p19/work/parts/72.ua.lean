set_option maxRecDepth 20000 in
set_option maxHeartbeats 2000000 in
theorem U23_0 {X : pm_X} {k : Nat} {w w' : pm_W} {r : Option Value} (hS : SK w) (h : PS X (k + 1) 23 0 [.ref 23, pm_dead] [] w r w') : if (gI w 23 4) ≤ (gI w 23 5) then (PS X k 23 38 [.ref 23, pm_dead] [] w r w') else (∃ (r1 : Option Value) (w2 : pm_W), PS X k 24 0 [.ref 23, .int (gI w 23 5)] [] w r1 w2 ∧ (∀ x3 : Int32, r1 = some (.int x3) → SK w2 → (∃ (r4 : Option Value) (w5 : pm_W), PS X k 25 0 [.int x3] [] w2 r4 w5 ∧ (∀ x6 : Int32, r4 = some (.int x6) → SK w5 → (if x6 = 0 then (PS X k 23 38 [.ref 23, pm_dead] [] w5 r w') else (∀ w7 : pm_W, w7 = sI w5 23 5 ((gI w5 23 5) + 1) → (PS X k 23 0 [.ref 23, pm_dead] [] w7 r w'))))))) := by
  have h := sp_one (i := .aload_n 0) (by decide +kernel) rfl h
  have h := sp_getI (jj := 47) (ci := 4) (n := 5) (by decide +kernel) (by decide +kernel) (by decide +kernel) hS h
  have h := sp_onk (i := .aload_n 0) (by decide +kernel) rfl h
  have h := sp_getI (jj := 43) (ci := 4) (n := 4) (by decide +kernel) (by decide +kernel) (by decide +kernel) hS h
  rcases sp_icmp_ge (mi := 23) (pc := 8) (off := 30) (t := 38) (by decide +kernel) (by decide) rfl h with ⟨hc, h⟩ | ⟨hc, h⟩
  · refine ite_t hc ?_
    exact h
  · refine ite_f hc ?_
    have h := sp_onk (i := .aload_n 0) (by decide +kernel) rfl h
    have h := sp_onk (i := .aload_n 0) (by decide +kernel) rfl h
    have h := sp_getI (jj := 47) (ci := 4) (n := 5) (by decide +kernel) (by decide +kernel) (by decide +kernel) hS h
    obtain ⟨r1, w2, hc, h⟩ := sp_callV (jj := 184) (mj := 24) (n := 1) (v := .ref 23) (args := [.int (gI w 23 5)]) (ls' := [.ref 23, .int (gI w 23 5)]) (by decide +kernel) (by decide +kernel) rfl rfl rfl h
    refine ⟨r1, w2, hc, fun x3 er hSw2 => ?_⟩
    subst er
    have h : PS X k 23 19 [.ref 23, pm_dead] [.int x3] w2 r w' := h
    obtain ⟨r4, w5, hc, h⟩ := sp_callS (jj := 191) (mj := 25) (n := 1) (args := [.int x3]) (ls' := [.int x3]) (by decide +kernel) (by decide +kernel) (by decide +kernel) rfl rfl rfl h
    refine ⟨r4, w5, hc, fun x6 er hSw5 => ?_⟩
    subst er
    have h : PS X k 23 22 [.ref 23, pm_dead] [.int x6] w5 r w' := h
    rcases sp_if_eq (mi := 23) (pc := 22) (off := 16) (t := 38) (by decide +kernel) (by decide) rfl h with ⟨hc, h⟩ | ⟨hc, h⟩
    · refine ite_t hc ?_
      exact h
    · refine ite_f hc ?_
      have h := sp_onk (i := .aload_n 0) (by decide +kernel) rfl h
      have h := sp_onk (i := .dup) (by decide +kernel) rfl h
      have h := sp_getI (jj := 47) (ci := 4) (n := 5) (by decide +kernel) (by decide +kernel) (by decide +kernel) hSw5 h
      have h := sp_iconst (n := 1) (v := 1) (by decide +kernel) (by decide +kernel) h
      have h := sp_onk (i := .iadd) (by decide +kernel) rfl h
      have h := sp_putI (jj := 47) (ci := 4) (n := 5) (ty := .int) (by decide +kernel) (by decide +kernel) (by decide +kernel) hSw5 h
      intro w7 ew7
      rw [← ew7] at h
      have hSw7 : SK w7 := by rw [ew7]; exact SK_sI hSw5
      have h := sp_goto (mi := 23) (pc := 35) (off := (-35)) (t := 0) (by decide +kernel) (by decide) rfl h
      exact h
set_option maxRecDepth 20000 in
set_option maxHeartbeats 2000000 in
theorem U23_38 {X : pm_X} {k : Nat} {w w' : pm_W} {r : Option Value} (hS : SK w) (h : PS X (k + 1) 23 38 [.ref 23, pm_dead] [] w r w') : ∀ w1 : pm_W, w1 = sI w 23 7 (gI w 23 5) → (∃ (r2 : Option Value) (w3 : pm_W), PS X k 24 0 [.ref 23, .int (gI w1 23 5)] [] w1 r2 w3 ∧ (∀ x4 : Int32, r2 = some (.int x4) → SK w3 → (if (gI w3 23 5) < (gI w3 23 4) then (∃ (r5 : Option Value) (w6 : pm_W), PS X k 26 0 [.int x4] [] w3 r5 w6 ∧ (∀ x7 : Int32, r5 = some (.int x7) → SK w6 → (if x7 = 0 then (∃ (r8 : Option Value) (w9 : pm_W), PS X k 27 0 [.int x4] [] w6 r8 w9 ∧ (∀ x10 : Int32, r8 = some (.int x10) → SK w9 → (if x10 = 0 then (if x4 = 59 then (∀ w13 : pm_W, w13 = sI w9 23 6 3 → (∀ w14 : pm_W, w14 = sI w13 23 5 ((gI w13 23 5) + 1) → (PS X k 23 163 [.ref 23, .int x4] [] w14 r w'))) else (∀ w11 : pm_W, w11 = sI w9 23 6 4 → (∀ w12 : pm_W, w12 = sI w11 23 5 ((gI w11 23 5) + 1) → (PS X k 23 163 [.ref 23, .int x4] [] w12 r w')))) else (∃ (r15 : Option Value) (w16 : pm_W), PS X k 28 0 [.ref 23] [] w9 r15 w16 ∧ (r15 = none → SK w16 → (PS X k 23 163 [.ref 23, .int x4] [] w16 r w')))))) else (∀ w17 : pm_W, w17 = sI w6 23 6 1 → (PS X k 23 86 [.ref 23, .int x4] [] w17 r w'))))) else (∀ w18 : pm_W, w18 = sI w3 23 6 0 → (PS X k 23 163 [.ref 23, .int x4] [] w18 r w'))))) := by
  have h := sp_one (i := .aload_n 0) (by decide +kernel) rfl h
  have h := sp_onk (i := .aload_n 0) (by decide +kernel) rfl h
  have h := sp_getI (jj := 47) (ci := 4) (n := 5) (by decide +kernel) (by decide +kernel) (by decide +kernel) hS h
  have h := sp_putI (jj := 69) (ci := 4) (n := 7) (ty := .int) (by decide +kernel) (by decide +kernel) (by decide +kernel) hS h
  intro w1 ew1
  rw [← ew1] at h
  have hSw1 : SK w1 := by rw [ew1]; exact SK_sI hS
  have h := sp_onk (i := .aload_n 0) (by decide +kernel) rfl h
  have h := sp_onk (i := .aload_n 0) (by decide +kernel) rfl h
  have h := sp_getI (jj := 47) (ci := 4) (n := 5) (by decide +kernel) (by decide +kernel) (by decide +kernel) hSw1 h
  obtain ⟨r2, w3, hc, h⟩ := sp_callV (jj := 184) (mj := 24) (n := 1) (v := .ref 23) (args := [.int (gI w1 23 5)]) (ls' := [.ref 23, .int (gI w1 23 5)]) (by decide +kernel) (by decide +kernel) rfl rfl rfl h
  refine ⟨r2, w3, hc, fun x4 er hSw3 => ?_⟩
  subst er
  have h : PS X k 23 54 [.ref 23, pm_dead] [.int x4] w3 r w' := h
  have h := sp_istore_n (j := 1) (ls' := [.ref 23, .int x4]) (by decide +kernel) (Nat.le_of_ble_eq_true rfl) rfl h
  have h := sp_onk (i := .aload_n 0) (by decide +kernel) rfl h
  have h := sp_getI (jj := 47) (ci := 4) (n := 5) (by decide +kernel) (by decide +kernel) (by decide +kernel) hSw3 h
  have h := sp_onk (i := .aload_n 0) (by decide +kernel) rfl h
  have h := sp_getI (jj := 43) (ci := 4) (n := 4) (by decide +kernel) (by decide +kernel) (by decide +kernel) hSw3 h
  rcases sp_icmp_lt (mi := 23) (pc := 63) (off := 11) (t := 74) (by decide +kernel) (by decide) rfl h with ⟨hc, h⟩ | ⟨hc, h⟩
  · refine ite_t hc ?_
    have h := sp_onk (i := .iload_n 1) (by decide +kernel) rfl h
    obtain ⟨r5, w6, hc, h⟩ := sp_callS (jj := 194) (mj := 26) (n := 1) (args := [.int x4]) (ls' := [.int x4]) (by decide +kernel) (by decide +kernel) (by decide +kernel) rfl rfl rfl h
    refine ⟨r5, w6, hc, fun x7 er hSw6 => ?_⟩
    subst er
    have h : PS X k 23 78 [.ref 23, .int x4] [.int x7] w6 r w' := h
    rcases sp_if_eq (mi := 23) (pc := 78) (off := 46) (t := 124) (by decide +kernel) (by decide) rfl h with ⟨hc, h⟩ | ⟨hc, h⟩
    · refine ite_t hc ?_
      have h := sp_onk (i := .iload_n 1) (by decide +kernel) rfl h
      obtain ⟨r8, w9, hc, h⟩ := sp_callS (jj := 197) (mj := 27) (n := 1) (args := [.int x4]) (ls' := [.int x4]) (by decide +kernel) (by decide +kernel) (by decide +kernel) rfl rfl rfl h
      refine ⟨r8, w9, hc, fun x10 er hSw9 => ?_⟩
      subst er
      have h : PS X k 23 128 [.ref 23, .int x4] [.int x10] w9 r w' := h
      rcases sp_if_eq (mi := 23) (pc := 128) (off := 10) (t := 138) (by decide +kernel) (by decide) rfl h with ⟨hc, h⟩ | ⟨hc, h⟩
      · refine ite_t hc ?_
        have h := sp_onk (i := .aload_n 0) (by decide +kernel) rfl h
        have h := sp_onk (i := .iload_n 1) (by decide +kernel) rfl h
        have h := sp_bipush (n := 59) (v := 59) (by decide +kernel) (by decide +kernel) h
        rcases sp_icmp_ne (mi := 23) (pc := 142) (off := 7) (t := 149) (by decide +kernel) (by decide) rfl h with ⟨hc, h⟩ | ⟨hc, h⟩
        · refine ite_f hc ?_
          have h := sp_iconst (n := 4) (v := 4) (by decide +kernel) (by decide +kernel) h
          have h := sp_putI (jj := 62) (ci := 4) (n := 6) (ty := .int) (by decide +kernel) (by decide +kernel) (by decide +kernel) hSw9 h
          intro w11 ew11
          rw [← ew11] at h
          have hSw11 : SK w11 := by rw [ew11]; exact SK_sI hSw9
          have h := sp_onk (i := .aload_n 0) (by decide +kernel) rfl h
          have h := sp_onk (i := .dup) (by decide +kernel) rfl h
          have h := sp_getI (jj := 47) (ci := 4) (n := 5) (by decide +kernel) (by decide +kernel) (by decide +kernel) hSw11 h
          have h := sp_iconst (n := 1) (v := 1) (by decide +kernel) (by decide +kernel) h
          have h := sp_onk (i := .iadd) (by decide +kernel) rfl h
          have h := sp_putI (jj := 47) (ci := 4) (n := 5) (ty := .int) (by decide +kernel) (by decide +kernel) (by decide +kernel) hSw11 h
          intro w12 ew12
          rw [← ew12] at h
          have hSw12 : SK w12 := by rw [ew12]; exact SK_sI hSw11
          exact h
        · refine ite_t (Classical.not_not.mp hc) ?_
          have h := sp_iconst (n := 3) (v := 3) (by decide +kernel) (by decide +kernel) h
          have h := sp_goto (mi := 23) (pc := 146) (off := 4) (t := 150) (by decide +kernel) (by decide) rfl h
          have h := sp_putI (jj := 62) (ci := 4) (n := 6) (ty := .int) (by decide +kernel) (by decide +kernel) (by decide +kernel) hSw9 h
          intro w13 ew13
          rw [← ew13] at h
          have hSw13 : SK w13 := by rw [ew13]; exact SK_sI hSw9
          have h := sp_onk (i := .aload_n 0) (by decide +kernel) rfl h
          have h := sp_onk (i := .dup) (by decide +kernel) rfl h
          have h := sp_getI (jj := 47) (ci := 4) (n := 5) (by decide +kernel) (by decide +kernel) (by decide +kernel) hSw13 h
          have h := sp_iconst (n := 1) (v := 1) (by decide +kernel) (by decide +kernel) h
          have h := sp_onk (i := .iadd) (by decide +kernel) rfl h
          have h := sp_putI (jj := 47) (ci := 4) (n := 5) (ty := .int) (by decide +kernel) (by decide +kernel) (by decide +kernel) hSw13 h
          intro w14 ew14
          rw [← ew14] at h
          have hSw14 : SK w14 := by rw [ew14]; exact SK_sI hSw13
          exact h
      · refine ite_f hc ?_
        have h := sp_onk (i := .aload_n 0) (by decide +kernel) rfl h
        obtain ⟨r15, w16, hc, h⟩ := sp_callV (jj := 200) (mj := 28) (n := 0) (v := .ref 23) (args := []) (ls' := [.ref 23]) (by decide +kernel) (by decide +kernel) rfl rfl rfl h
        refine ⟨r15, w16, hc, fun er hSw16 => ?_⟩
        subst er
        have h : PS X k 23 135 [.ref 23, .int x4] [] w16 r w' := h
        have h := sp_goto (mi := 23) (pc := 135) (off := 28) (t := 163) (by decide +kernel) (by decide) rfl h
        exact h
    · refine ite_f hc ?_
      have h := sp_onk (i := .aload_n 0) (by decide +kernel) rfl h
      have h := sp_iconst (n := 1) (v := 1) (by decide +kernel) (by decide +kernel) h
      have h := sp_putI (jj := 62) (ci := 4) (n := 6) (ty := .int) (by decide +kernel) (by decide +kernel) (by decide +kernel) hSw6 h
      intro w17 ew17
      rw [← ew17] at h
      have hSw17 : SK w17 := by rw [ew17]; exact SK_sI hSw6
      exact h
  · refine ite_f hc ?_
    have h := sp_onk (i := .aload_n 0) (by decide +kernel) rfl h
    have h := sp_iconst (n := 0) (v := 0) (by decide +kernel) (by decide +kernel) h
    have h := sp_putI (jj := 62) (ci := 4) (n := 6) (ty := .int) (by decide +kernel) (by decide +kernel) (by decide +kernel) hSw3 h
    intro w18 ew18
    rw [← ew18] at h
    have hSw18 : SK w18 := by rw [ew18]; exact SK_sI hSw3
    have h := sp_goto (mi := 23) (pc := 71) (off := 92) (t := 163) (by decide +kernel) (by decide) rfl h
    exact h
set_option maxRecDepth 20000 in
set_option maxHeartbeats 2000000 in
theorem U23_86 {X : pm_X} {k : Nat} {w w' : pm_W} {r : Option Value} {i1 : Int32} (hS : SK w) (h : PS X (k + 1) 23 86 [.ref 23, .int i1] [] w r w') : if (gI w 23 4) ≤ (gI w 23 5) then (PS X k 23 163 [.ref 23, .int i1] [] w r w') else (∃ (r1 : Option Value) (w2 : pm_W), PS X k 24 0 [.ref 23, .int (gI w 23 5)] [] w r1 w2 ∧ (∀ x3 : Int32, r1 = some (.int x3) → SK w2 → (∃ (r4 : Option Value) (w5 : pm_W), PS X k 26 0 [.int x3] [] w2 r4 w5 ∧ (∀ x6 : Int32, r4 = some (.int x6) → SK w5 → (if x6 = 0 then (PS X k 23 163 [.ref 23, .int i1] [] w5 r w') else (∀ w7 : pm_W, w7 = sI w5 23 5 ((gI w5 23 5) + 1) → (PS X k 23 86 [.ref 23, .int i1] [] w7 r w'))))))) := by
  have h := sp_one (i := .aload_n 0) (by decide +kernel) rfl h
  have h := sp_getI (jj := 47) (ci := 4) (n := 5) (by decide +kernel) (by decide +kernel) (by decide +kernel) hS h
  have h := sp_onk (i := .aload_n 0) (by decide +kernel) rfl h
  have h := sp_getI (jj := 43) (ci := 4) (n := 4) (by decide +kernel) (by decide +kernel) (by decide +kernel) hS h
  rcases sp_icmp_ge (mi := 23) (pc := 94) (off := 69) (t := 163) (by decide +kernel) (by decide) rfl h with ⟨hc, h⟩ | ⟨hc, h⟩
  · refine ite_t hc ?_
    exact h
  · refine ite_f hc ?_
    have h := sp_onk (i := .aload_n 0) (by decide +kernel) rfl h
    have h := sp_onk (i := .aload_n 0) (by decide +kernel) rfl h
    have h := sp_getI (jj := 47) (ci := 4) (n := 5) (by decide +kernel) (by decide +kernel) (by decide +kernel) hS h
    obtain ⟨r1, w2, hc, h⟩ := sp_callV (jj := 184) (mj := 24) (n := 1) (v := .ref 23) (args := [.int (gI w 23 5)]) (ls' := [.ref 23, .int (gI w 23 5)]) (by decide +kernel) (by decide +kernel) rfl rfl rfl h
    refine ⟨r1, w2, hc, fun x3 er hSw2 => ?_⟩
    subst er
    have h : PS X k 23 105 [.ref 23, .int i1] [.int x3] w2 r w' := h
    obtain ⟨r4, w5, hc, h⟩ := sp_callS (jj := 194) (mj := 26) (n := 1) (args := [.int x3]) (ls' := [.int x3]) (by decide +kernel) (by decide +kernel) (by decide +kernel) rfl rfl rfl h
    refine ⟨r4, w5, hc, fun x6 er hSw5 => ?_⟩
    subst er
    have h : PS X k 23 108 [.ref 23, .int i1] [.int x6] w5 r w' := h
    rcases sp_if_eq (mi := 23) (pc := 108) (off := 55) (t := 163) (by decide +kernel) (by decide) rfl h with ⟨hc, h⟩ | ⟨hc, h⟩
    · refine ite_t hc ?_
      exact h
    · refine ite_f hc ?_
      have h := sp_onk (i := .aload_n 0) (by decide +kernel) rfl h
      have h := sp_onk (i := .dup) (by decide +kernel) rfl h
      have h := sp_getI (jj := 47) (ci := 4) (n := 5) (by decide +kernel) (by decide +kernel) (by decide +kernel) hSw5 h
      have h := sp_iconst (n := 1) (v := 1) (by decide +kernel) (by decide +kernel) h
      have h := sp_onk (i := .iadd) (by decide +kernel) rfl h
      have h := sp_putI (jj := 47) (ci := 4) (n := 5) (ty := .int) (by decide +kernel) (by decide +kernel) (by decide +kernel) hSw5 h
      intro w7 ew7
      rw [← ew7] at h
      have hSw7 : SK w7 := by rw [ew7]; exact SK_sI hSw5
      have h := sp_goto (mi := 23) (pc := 121) (off := (-35)) (t := 86) (by decide +kernel) (by decide) rfl h
      exact h
set_option maxRecDepth 20000 in
set_option maxHeartbeats 2000000 in
theorem U23_163 {X : pm_X} {k : Nat} {w w' : pm_W} {r : Option Value} {i1 : Int32} (hS : SK w) (h : PS X (k + 1) 23 163 [.ref 23, .int i1] [] w r w') : r = none ∧ w' = w := by
  exact sp_vret (by decide +kernel) h
set_option maxRecDepth 20000 in
set_option maxHeartbeats 2000000 in
theorem U24_0 {X : pm_X} {k : Nat} {w w' : pm_W} {r : Option Value} {p1 : Int32} (hS : SK w) (h : PS X (k + 1) 24 0 [.ref 23, .int p1] [] w r w') : if p1 < 0 then (r = some (.int (-1)) ∧ w' = w) else (if (gI w 23 4) ≤ p1 then (r = some (.int (-1)) ∧ w' = w) else (aI w (gR w 23 3) p1 ∧ (r = some (.int (aG w (gR w 23 3) p1)) ∧ w' = w))) := by
  have h := sp_one (i := .iload_n 1) (by decide +kernel) rfl h
  rcases sp_if_lt (mi := 24) (pc := 1) (off := 20) (t := 21) (by decide +kernel) (by decide) rfl h with ⟨hc, h⟩ | ⟨hc, h⟩
  · refine ite_t hc ?_
    have h := sp_iconst (n := (-1)) (v := (-1)) (by decide +kernel) (by decide +kernel) h
    exact sp_iret (by decide +kernel) h
  · refine ite_f hc ?_
    have h := sp_onk (i := .iload_n 1) (by decide +kernel) rfl h
    have h := sp_onk (i := .aload_n 0) (by decide +kernel) rfl h
    have h := sp_getI (jj := 43) (ci := 4) (n := 4) (by decide +kernel) (by decide +kernel) (by decide +kernel) hS h
    rcases sp_icmp_ge (mi := 24) (pc := 9) (off := 12) (t := 21) (by decide +kernel) (by decide) rfl h with ⟨hc, h⟩ | ⟨hc, h⟩
    · refine ite_t hc ?_
      have h := sp_iconst (n := (-1)) (v := (-1)) (by decide +kernel) (by decide +kernel) h
      exact sp_iret (by decide +kernel) h
    · refine ite_f hc ?_
      have h := sp_onk (i := .aload_n 0) (by decide +kernel) rfl h
      have h := sp_getR (jj := 29) (ci := 4) (n := 3) (by decide +kernel) (by decide +kernel) (by decide +kernel) hS h
      have h := sp_onk (i := .iload_n 1) (by decide +kernel) rfl h
      obtain ⟨hi, h⟩ := sp_bald (by decide +kernel) h
      refine ⟨hi, ?_⟩
      have h := sp_goto (mi := 24) (pc := 18) (off := 4) (t := 22) (by decide +kernel) (by decide) rfl h
      exact sp_iret (by decide +kernel) h
set_option maxRecDepth 20000 in
set_option maxHeartbeats 2000000 in
theorem U25_0 {X : pm_X} {k : Nat} {w w' : pm_W} {r : Option Value} {p1 : Int32} (hS : SK w) (h : PS X (k + 1) 25 0 [.int p1] [] w r w') : if p1 = 10 then (r = some (.int 1) ∧ w' = w) else (if p1 = 32 then (r = some (.int 1) ∧ w' = w) else (r = some (.int 0) ∧ w' = w)) := by
  have h := sp_one (i := .iload_n 0) (by decide +kernel) rfl h
  have h := sp_bipush (n := 10) (v := 10) (by decide +kernel) (by decide +kernel) h
  rcases sp_icmp_eq (mi := 25) (pc := 3) (off := 9) (t := 12) (by decide +kernel) (by decide) rfl h with ⟨hc, h⟩ | ⟨hc, h⟩
  · refine ite_t hc ?_
    have h := sp_iconst (n := 1) (v := 1) (by decide +kernel) (by decide +kernel) h
    have h := sp_goto (mi := 25) (pc := 13) (off := 4) (t := 17) (by decide +kernel) (by decide) rfl h
    exact sp_iret (by decide +kernel) h
  · refine ite_f hc ?_
    have h := sp_onk (i := .iload_n 0) (by decide +kernel) rfl h
    have h := sp_bipush (n := 32) (v := 32) (by decide +kernel) (by decide +kernel) h
    rcases sp_icmp_ne (mi := 25) (pc := 9) (off := 7) (t := 16) (by decide +kernel) (by decide) rfl h with ⟨hc, h⟩ | ⟨hc, h⟩
    · refine ite_f hc ?_
      have h := sp_iconst (n := 0) (v := 0) (by decide +kernel) (by decide +kernel) h
      exact sp_iret (by decide +kernel) h
    · refine ite_t (Classical.not_not.mp hc) ?_
      have h := sp_iconst (n := 1) (v := 1) (by decide +kernel) (by decide +kernel) h
      have h := sp_goto (mi := 25) (pc := 13) (off := 4) (t := 17) (by decide +kernel) (by decide) rfl h
      exact sp_iret (by decide +kernel) h
set_option maxRecDepth 20000 in
set_option maxHeartbeats 2000000 in
theorem U26_0 {X : pm_X} {k : Nat} {w w' : pm_W} {r : Option Value} {p1 : Int32} (hS : SK w) (h : PS X (k + 1) 26 0 [.int p1] [] w r w') : if p1 < 97 then (r = some (.int 0) ∧ w' = w) else (if 122 < p1 then (r = some (.int 0) ∧ w' = w) else (r = some (.int 1) ∧ w' = w)) := by
  have h := sp_one (i := .iload_n 0) (by decide +kernel) rfl h
  have h := sp_bipush (n := 97) (v := 97) (by decide +kernel) (by decide +kernel) h
  rcases sp_icmp_lt (mi := 26) (pc := 3) (off := 13) (t := 16) (by decide +kernel) (by decide) rfl h with ⟨hc, h⟩ | ⟨hc, h⟩
  · refine ite_t hc ?_
    have h := sp_iconst (n := 0) (v := 0) (by decide +kernel) (by decide +kernel) h
    exact sp_iret (by decide +kernel) h
  · refine ite_f hc ?_
    have h := sp_onk (i := .iload_n 0) (by decide +kernel) rfl h
    have h := sp_bipush (n := 122) (v := 122) (by decide +kernel) (by decide +kernel) h
    rcases sp_icmp_gt (mi := 26) (pc := 9) (off := 7) (t := 16) (by decide +kernel) (by decide) rfl h with ⟨hc, h⟩ | ⟨hc, h⟩
    · refine ite_t hc ?_
      have h := sp_iconst (n := 0) (v := 0) (by decide +kernel) (by decide +kernel) h
      exact sp_iret (by decide +kernel) h
    · refine ite_f hc ?_
      have h := sp_iconst (n := 1) (v := 1) (by decide +kernel) (by decide +kernel) h
      have h := sp_goto (mi := 26) (pc := 13) (off := 4) (t := 17) (by decide +kernel) (by decide) rfl h
      exact sp_iret (by decide +kernel) h
set_option maxRecDepth 20000 in
set_option maxHeartbeats 2000000 in
theorem U27_0 {X : pm_X} {k : Nat} {w w' : pm_W} {r : Option Value} {p1 : Int32} (hS : SK w) (h : PS X (k + 1) 27 0 [.int p1] [] w r w') : if p1 < 48 then (r = some (.int 0) ∧ w' = w) else (if 57 < p1 then (r = some (.int 0) ∧ w' = w) else (r = some (.int 1) ∧ w' = w)) := by
  have h := sp_one (i := .iload_n 0) (by decide +kernel) rfl h
  have h := sp_bipush (n := 48) (v := 48) (by decide +kernel) (by decide +kernel) h
  rcases sp_icmp_lt (mi := 27) (pc := 3) (off := 13) (t := 16) (by decide +kernel) (by decide) rfl h with ⟨hc, h⟩ | ⟨hc, h⟩
  · refine ite_t hc ?_
    have h := sp_iconst (n := 0) (v := 0) (by decide +kernel) (by decide +kernel) h
    exact sp_iret (by decide +kernel) h
  · refine ite_f hc ?_
    have h := sp_onk (i := .iload_n 0) (by decide +kernel) rfl h
    have h := sp_bipush (n := 57) (v := 57) (by decide +kernel) (by decide +kernel) h
    rcases sp_icmp_gt (mi := 27) (pc := 9) (off := 7) (t := 16) (by decide +kernel) (by decide) rfl h with ⟨hc, h⟩ | ⟨hc, h⟩
    · refine ite_t hc ?_
      have h := sp_iconst (n := 0) (v := 0) (by decide +kernel) (by decide +kernel) h
      exact sp_iret (by decide +kernel) h
    · refine ite_f hc ?_
      have h := sp_iconst (n := 1) (v := 1) (by decide +kernel) (by decide +kernel) h
      have h := sp_goto (mi := 27) (pc := 13) (off := 4) (t := 17) (by decide +kernel) (by decide) rfl h
      exact sp_iret (by decide +kernel) h
set_option maxRecDepth 20000 in
set_option maxHeartbeats 2000000 in
theorem U28_0 {X : pm_X} {k : Nat} {w w' : pm_W} {r : Option Value} (hS : SK w) (h : PS X (k + 1) 28 0 [.ref 23] [] w r w') : ∀ w1 : pm_W, w1 = sI w 23 8 0 → (PS X k 28 5 [.ref 23] [] w1 r w') := by
  have h := sp_one (i := .aload_n 0) (by decide +kernel) rfl h
  have h := sp_iconst (n := 0) (v := 0) (by decide +kernel) (by decide +kernel) h
  have h := sp_putI (jj := 92) (ci := 4) (n := 8) (ty := .int) (by decide +kernel) (by decide +kernel) (by decide +kernel) hS h
  intro w1 ew1
  rw [← ew1] at h
  have hSw1 : SK w1 := by rw [ew1]; exact SK_sI hS
  exact h
set_option maxRecDepth 20000 in
set_option maxHeartbeats 2000000 in
theorem U28_5 {X : pm_X} {k : Nat} {w w' : pm_W} {r : Option Value} (hS : SK w) (h : PS X (k + 1) 28 5 [.ref 23] [] w r w') : if (gI w 23 4) ≤ (gI w 23 5) then (if ((gI w 23 5) - (gI w 23 7)) ≤ 2 then (∀ w1 : pm_W, w1 = sI w 23 6 2 → (r = none ∧ w' = w1)) else (∀ w2 : pm_W, w2 = sI w 23 6 4 → (r = none ∧ w' = w2))) else (∃ (r3 : Option Value) (w4 : pm_W), PS X k 24 0 [.ref 23, .int (gI w 23 5)] [] w r3 w4 ∧ (∀ x5 : Int32, r3 = some (.int x5) → SK w4 → (∃ (r6 : Option Value) (w7 : pm_W), PS X k 27 0 [.int x5] [] w4 r6 w7 ∧ (∀ x8 : Int32, r6 = some (.int x8) → SK w7 → (if x8 = 0 then (if ((gI w7 23 5) - (gI w7 23 7)) ≤ 2 then (∀ w9 : pm_W, w9 = sI w7 23 6 2 → (r = none ∧ w' = w9)) else (∀ w10 : pm_W, w10 = sI w7 23 6 4 → (r = none ∧ w' = w10))) else (if 2 ≤ ((gI w7 23 5) - (gI w7 23 7)) then (∀ w11 : pm_W, w11 = sI w7 23 8 (gI w7 23 8) → (∀ w12 : pm_W, w12 = sI w11 23 5 ((gI w11 23 5) + 1) → (PS X k 28 5 [.ref 23] [] w12 r w'))) else (∃ (r13 : Option Value) (w14 : pm_W), PS X k 24 0 [.ref 23, .int (gI w7 23 5)] [] w7 r13 w14 ∧ (∀ x15 : Int32, r13 = some (.int x15) → SK w14 → (∀ w16 : pm_W, w16 = sI w14 23 8 ((((gI w7 23 8) * 10) + x15) - 48) → (∀ w17 : pm_W, w17 = sI w16 23 5 ((gI w16 23 5) + 1) → (PS X k 28 5 [.ref 23] [] w17 r w'))))))))))) := by
  have h := sp_one (i := .aload_n 0) (by decide +kernel) rfl h
  have h := sp_getI (jj := 47) (ci := 4) (n := 5) (by decide +kernel) (by decide +kernel) (by decide +kernel) hS h
  have h := sp_onk (i := .aload_n 0) (by decide +kernel) rfl h
  have h := sp_getI (jj := 43) (ci := 4) (n := 4) (by decide +kernel) (by decide +kernel) (by decide +kernel) hS h
  rcases sp_icmp_ge (mi := 28) (pc := 13) (off := 73) (t := 86) (by decide +kernel) (by decide) rfl h with ⟨hc, h⟩ | ⟨hc, h⟩
  · refine ite_t hc ?_
    have h := sp_onk (i := .aload_n 0) (by decide +kernel) rfl h
    have h := sp_onk (i := .aload_n 0) (by decide +kernel) rfl h
    have h := sp_getI (jj := 47) (ci := 4) (n := 5) (by decide +kernel) (by decide +kernel) (by decide +kernel) hS h
    have h := sp_onk (i := .aload_n 0) (by decide +kernel) rfl h
    have h := sp_getI (jj := 69) (ci := 4) (n := 7) (by decide +kernel) (by decide +kernel) (by decide +kernel) hS h
    have h := sp_onk (i := .isub) (by decide +kernel) rfl h
    have h := sp_iconst (n := 2) (v := 2) (by decide +kernel) (by decide +kernel) h
    rcases sp_icmp_le (mi := 28) (pc := 97) (off := 7) (t := 104) (by decide +kernel) (by decide) rfl h with ⟨hc, h⟩ | ⟨hc, h⟩
    · refine ite_t hc ?_
      have h := sp_iconst (n := 2) (v := 2) (by decide +kernel) (by decide +kernel) h
      have h := sp_putI (jj := 62) (ci := 4) (n := 6) (ty := .int) (by decide +kernel) (by decide +kernel) (by decide +kernel) hS h
      intro w1 ew1
      rw [← ew1] at h
      have hSw1 : SK w1 := by rw [ew1]; exact SK_sI hS
      exact sp_vret (by decide +kernel) h
    · refine ite_f hc ?_
      have h := sp_iconst (n := 4) (v := 4) (by decide +kernel) (by decide +kernel) h
      have h := sp_goto (mi := 28) (pc := 101) (off := 4) (t := 105) (by decide +kernel) (by decide) rfl h
      have h := sp_putI (jj := 62) (ci := 4) (n := 6) (ty := .int) (by decide +kernel) (by decide +kernel) (by decide +kernel) hS h
      intro w2 ew2
      rw [← ew2] at h
      have hSw2 : SK w2 := by rw [ew2]; exact SK_sI hS
      exact sp_vret (by decide +kernel) h
  · refine ite_f hc ?_
    have h := sp_onk (i := .aload_n 0) (by decide +kernel) rfl h
    have h := sp_onk (i := .aload_n 0) (by decide +kernel) rfl h
    have h := sp_getI (jj := 47) (ci := 4) (n := 5) (by decide +kernel) (by decide +kernel) (by decide +kernel) hS h
    obtain ⟨r3, w4, hc, h⟩ := sp_callV (jj := 184) (mj := 24) (n := 1) (v := .ref 23) (args := [.int (gI w 23 5)]) (ls' := [.ref 23, .int (gI w 23 5)]) (by decide +kernel) (by decide +kernel) rfl rfl rfl h
    refine ⟨r3, w4, hc, fun x5 er hSw4 => ?_⟩
    subst er
    have h : PS X k 28 24 [.ref 23] [.int x5] w4 r w' := h
    obtain ⟨r6, w7, hc, h⟩ := sp_callS (jj := 197) (mj := 27) (n := 1) (args := [.int x5]) (ls' := [.int x5]) (by decide +kernel) (by decide +kernel) (by decide +kernel) rfl rfl rfl h
    refine ⟨r6, w7, hc, fun x8 er hSw7 => ?_⟩
    subst er
    have h : PS X k 28 27 [.ref 23] [.int x8] w7 r w' := h
    rcases sp_if_eq (mi := 28) (pc := 27) (off := 59) (t := 86) (by decide +kernel) (by decide) rfl h with ⟨hc, h⟩ | ⟨hc, h⟩
    · refine ite_t hc ?_
      have h := sp_onk (i := .aload_n 0) (by decide +kernel) rfl h
      have h := sp_onk (i := .aload_n 0) (by decide +kernel) rfl h
      have h := sp_getI (jj := 47) (ci := 4) (n := 5) (by decide +kernel) (by decide +kernel) (by decide +kernel) hSw7 h
      have h := sp_onk (i := .aload_n 0) (by decide +kernel) rfl h
      have h := sp_getI (jj := 69) (ci := 4) (n := 7) (by decide +kernel) (by decide +kernel) (by decide +kernel) hSw7 h
      have h := sp_onk (i := .isub) (by decide +kernel) rfl h
      have h := sp_iconst (n := 2) (v := 2) (by decide +kernel) (by decide +kernel) h
      rcases sp_icmp_le (mi := 28) (pc := 97) (off := 7) (t := 104) (by decide +kernel) (by decide) rfl h with ⟨hc, h⟩ | ⟨hc, h⟩
      · refine ite_t hc ?_
        have h := sp_iconst (n := 2) (v := 2) (by decide +kernel) (by decide +kernel) h
        have h := sp_putI (jj := 62) (ci := 4) (n := 6) (ty := .int) (by decide +kernel) (by decide +kernel) (by decide +kernel) hSw7 h
        intro w9 ew9
        rw [← ew9] at h
        have hSw9 : SK w9 := by rw [ew9]; exact SK_sI hSw7
        exact sp_vret (by decide +kernel) h
      · refine ite_f hc ?_
        have h := sp_iconst (n := 4) (v := 4) (by decide +kernel) (by decide +kernel) h
        have h := sp_goto (mi := 28) (pc := 101) (off := 4) (t := 105) (by decide +kernel) (by decide) rfl h
        have h := sp_putI (jj := 62) (ci := 4) (n := 6) (ty := .int) (by decide +kernel) (by decide +kernel) (by decide +kernel) hSw7 h
        intro w10 ew10
        rw [← ew10] at h
        have hSw10 : SK w10 := by rw [ew10]; exact SK_sI hSw7
        exact sp_vret (by decide +kernel) h
    · refine ite_f hc ?_
      have h := sp_onk (i := .aload_n 0) (by decide +kernel) rfl h
      have h := sp_onk (i := .aload_n 0) (by decide +kernel) rfl h
      have h := sp_getI (jj := 47) (ci := 4) (n := 5) (by decide +kernel) (by decide +kernel) (by decide +kernel) hSw7 h
      have h := sp_onk (i := .aload_n 0) (by decide +kernel) rfl h
      have h := sp_getI (jj := 69) (ci := 4) (n := 7) (by decide +kernel) (by decide +kernel) (by decide +kernel) hSw7 h
      have h := sp_onk (i := .isub) (by decide +kernel) rfl h
      have h := sp_iconst (n := 2) (v := 2) (by decide +kernel) (by decide +kernel) h
      rcases sp_icmp_ge (mi := 28) (pc := 41) (off := 25) (t := 66) (by decide +kernel) (by decide) rfl h with ⟨hc, h⟩ | ⟨hc, h⟩
      · refine ite_t hc ?_
        have h := sp_onk (i := .aload_n 0) (by decide +kernel) rfl h
        have h := sp_getI (jj := 92) (ci := 4) (n := 8) (by decide +kernel) (by decide +kernel) (by decide +kernel) hSw7 h
        have h := sp_putI (jj := 92) (ci := 4) (n := 8) (ty := .int) (by decide +kernel) (by decide +kernel) (by decide +kernel) hSw7 h
        intro w11 ew11
        rw [← ew11] at h
        have hSw11 : SK w11 := by rw [ew11]; exact SK_sI hSw7
        have h := sp_onk (i := .aload_n 0) (by decide +kernel) rfl h
        have h := sp_onk (i := .dup) (by decide +kernel) rfl h
        have h := sp_getI (jj := 47) (ci := 4) (n := 5) (by decide +kernel) (by decide +kernel) (by decide +kernel) hSw11 h
        have h := sp_iconst (n := 1) (v := 1) (by decide +kernel) (by decide +kernel) h
        have h := sp_onk (i := .iadd) (by decide +kernel) rfl h
        have h := sp_putI (jj := 47) (ci := 4) (n := 5) (ty := .int) (by decide +kernel) (by decide +kernel) (by decide +kernel) hSw11 h
        intro w12 ew12
        rw [← ew12] at h
        have hSw12 : SK w12 := by rw [ew12]; exact SK_sI hSw11
        have h := sp_goto (mi := 28) (pc := 83) (off := (-78)) (t := 5) (by decide +kernel) (by decide) rfl h
        exact h
      · refine ite_f hc ?_
        have h := sp_onk (i := .aload_n 0) (by decide +kernel) rfl h
        have h := sp_getI (jj := 92) (ci := 4) (n := 8) (by decide +kernel) (by decide +kernel) (by decide +kernel) hSw7 h
        have h := sp_bipush (n := 10) (v := 10) (by decide +kernel) (by decide +kernel) h
        have h := sp_onk (i := .imul) (by decide +kernel) rfl h
        have h := sp_onk (i := .aload_n 0) (by decide +kernel) rfl h
        have h := sp_onk (i := .aload_n 0) (by decide +kernel) rfl h
        have h := sp_getI (jj := 47) (ci := 4) (n := 5) (by decide +kernel) (by decide +kernel) (by decide +kernel) hSw7 h
        obtain ⟨r13, w14, hc, h⟩ := sp_callV (jj := 184) (mj := 24) (n := 1) (v := .ref 23) (args := [.int (gI w7 23 5)]) (ls' := [.ref 23, .int (gI w7 23 5)]) (by decide +kernel) (by decide +kernel) rfl rfl rfl h
        refine ⟨r13, w14, hc, fun x15 er hSw14 => ?_⟩
        subst er
        have h : PS X k 28 59 [.ref 23] [.int x15, .int ((gI w7 23 8) * 10), .ref 23] w14 r w' := h
        have h := sp_onk (i := .iadd) (by decide +kernel) rfl h
        have h := sp_bipush (n := 48) (v := 48) (by decide +kernel) (by decide +kernel) h
        have h := sp_onk (i := .isub) (by decide +kernel) rfl h
        have h := sp_goto (mi := 28) (pc := 63) (off := 7) (t := 70) (by decide +kernel) (by decide) rfl h
        have h := sp_putI (jj := 92) (ci := 4) (n := 8) (ty := .int) (by decide +kernel) (by decide +kernel) (by decide +kernel) hSw14 h
        intro w16 ew16
        rw [← ew16] at h
        have hSw16 : SK w16 := by rw [ew16]; exact SK_sI hSw14
        have h := sp_onk (i := .aload_n 0) (by decide +kernel) rfl h
        have h := sp_onk (i := .dup) (by decide +kernel) rfl h
        have h := sp_getI (jj := 47) (ci := 4) (n := 5) (by decide +kernel) (by decide +kernel) (by decide +kernel) hSw16 h
        have h := sp_iconst (n := 1) (v := 1) (by decide +kernel) (by decide +kernel) h
        have h := sp_onk (i := .iadd) (by decide +kernel) rfl h
        have h := sp_putI (jj := 47) (ci := 4) (n := 5) (ty := .int) (by decide +kernel) (by decide +kernel) (by decide +kernel) hSw16 h
        intro w17 ew17
        rw [← ew17] at h
        have hSw17 : SK w17 := by rw [ew17]; exact SK_sI hSw16
        have h := sp_goto (mi := 28) (pc := 83) (off := (-78)) (t := 5) (by decide +kernel) (by decide) rfl h
        exact h
set_option maxRecDepth 20000 in
set_option maxHeartbeats 2000000 in
theorem U30_0 {X : pm_X} {k : Nat} {w w' : pm_W} {r : Option Value} {p1 : Int32} (hS : SK w) (h : PS X (k + 1) 30 0 [.ref 23, .int p1, pm_dead, pm_dead, pm_dead] [] w r w') : if (gI w 23 6) = 1 then (if p1 = 0 then (if p1 = 0 then (PS X k 30 36 [.ref 23, .int p1, .int 6, .int 13, .int 6] [] w r w') else (PS X k 30 36 [.ref 23, .int p1, .int 6, .int 6, .int 6] [] w r w')) else (if p1 = 0 then (PS X k 30 36 [.ref 23, .int p1, .int 0, .int 13, .int 0] [] w r w') else (PS X k 30 36 [.ref 23, .int p1, .int 0, .int 6, .int 0] [] w r w'))) else (r = some (.int (-1)) ∧ w' = w) := by
  have h := sp_one (i := .aload_n 0) (by decide +kernel) rfl h
  have h := sp_getI (jj := 62) (ci := 4) (n := 6) (by decide +kernel) (by decide +kernel) (by decide +kernel) hS h
  have h := sp_iconst (n := 1) (v := 1) (by decide +kernel) (by decide +kernel) h
  rcases sp_icmp_eq (mi := 30) (pc := 5) (off := 5) (t := 10) (by decide +kernel) (by decide) rfl h with ⟨hc, h⟩ | ⟨hc, h⟩
  · refine ite_t hc ?_
    have h := sp_onk (i := .iload_n 1) (by decide +kernel) rfl h
    rcases sp_if_ne (mi := 30) (pc := 11) (off := 8) (t := 19) (by decide +kernel) (by decide) rfl h with ⟨hc, h⟩ | ⟨hc, h⟩
    · refine ite_f hc ?_
      have h := sp_iconst (n := 0) (v := 0) (by decide +kernel) (by decide +kernel) h
      have h := sp_istore_n (j := 2) (ls' := [.ref 23, .int p1, .int 0, pm_dead, pm_dead]) (by decide +kernel) (Nat.le_of_ble_eq_true rfl) rfl h
      have h := sp_onk (i := .iload_n 1) (by decide +kernel) rfl h
      rcases sp_if_ne (mi := 30) (pc := 22) (off := 8) (t := 30) (by decide +kernel) (by decide) rfl h with ⟨hc, h⟩ | ⟨hc, h⟩
      · refine ite_f hc ?_
        have h := sp_bipush (n := 6) (v := 6) (by decide +kernel) (by decide +kernel) h
        have h := sp_istore_n (j := 3) (ls' := [.ref 23, .int p1, .int 0, .int 6, pm_dead]) (by decide +kernel) (Nat.le_of_ble_eq_true rfl) rfl h
        have h := sp_onk (i := .iload_n 2) (by decide +kernel) rfl h
        have h := sp_istore (j := 4) (ls' := [.ref 23, .int p1, .int 0, .int 6, .int 0]) (by decide +kernel) (Nat.le_of_ble_eq_true rfl) rfl h
        exact h
      · refine ite_t (Classical.not_not.mp hc) ?_
        have h := sp_bipush (n := 13) (v := 13) (by decide +kernel) (by decide +kernel) h
        have h := sp_goto (mi := 30) (pc := 27) (off := 5) (t := 32) (by decide +kernel) (by decide) rfl h
        have h := sp_istore_n (j := 3) (ls' := [.ref 23, .int p1, .int 0, .int 13, pm_dead]) (by decide +kernel) (Nat.le_of_ble_eq_true rfl) rfl h
        have h := sp_onk (i := .iload_n 2) (by decide +kernel) rfl h
        have h := sp_istore (j := 4) (ls' := [.ref 23, .int p1, .int 0, .int 13, .int 0]) (by decide +kernel) (Nat.le_of_ble_eq_true rfl) rfl h
        exact h
    · refine ite_t (Classical.not_not.mp hc) ?_
      have h := sp_bipush (n := 6) (v := 6) (by decide +kernel) (by decide +kernel) h
      have h := sp_goto (mi := 30) (pc := 16) (off := 4) (t := 20) (by decide +kernel) (by decide) rfl h
      have h := sp_istore_n (j := 2) (ls' := [.ref 23, .int p1, .int 6, pm_dead, pm_dead]) (by decide +kernel) (Nat.le_of_ble_eq_true rfl) rfl h
      have h := sp_onk (i := .iload_n 1) (by decide +kernel) rfl h
      rcases sp_if_ne (mi := 30) (pc := 22) (off := 8) (t := 30) (by decide +kernel) (by decide) rfl h with ⟨hc, h⟩ | ⟨hc, h⟩
      · refine ite_f hc ?_
        have h := sp_bipush (n := 6) (v := 6) (by decide +kernel) (by decide +kernel) h
        have h := sp_istore_n (j := 3) (ls' := [.ref 23, .int p1, .int 6, .int 6, pm_dead]) (by decide +kernel) (Nat.le_of_ble_eq_true rfl) rfl h
        have h := sp_onk (i := .iload_n 2) (by decide +kernel) rfl h
        have h := sp_istore (j := 4) (ls' := [.ref 23, .int p1, .int 6, .int 6, .int 6]) (by decide +kernel) (Nat.le_of_ble_eq_true rfl) rfl h
        exact h
      · refine ite_t (Classical.not_not.mp hc) ?_
        have h := sp_bipush (n := 13) (v := 13) (by decide +kernel) (by decide +kernel) h
        have h := sp_goto (mi := 30) (pc := 27) (off := 5) (t := 32) (by decide +kernel) (by decide) rfl h
        have h := sp_istore_n (j := 3) (ls' := [.ref 23, .int p1, .int 6, .int 13, pm_dead]) (by decide +kernel) (Nat.le_of_ble_eq_true rfl) rfl h
        have h := sp_onk (i := .iload_n 2) (by decide +kernel) rfl h
        have h := sp_istore (j := 4) (ls' := [.ref 23, .int p1, .int 6, .int 13, .int 6]) (by decide +kernel) (Nat.le_of_ble_eq_true rfl) rfl h
        exact h
  · refine ite_f hc ?_
    have h := sp_iconst (n := (-1)) (v := (-1)) (by decide +kernel) (by decide +kernel) h
    exact sp_iret (by decide +kernel) h
set_option maxRecDepth 20000 in
set_option maxHeartbeats 2000000 in
theorem U30_36 {X : pm_X} {k : Nat} {w w' : pm_W} {r : Option Value} {i1 : Int32} {i2 : Int32} {i3 : Int32} {i4 : Int32} (hS : SK w) (h : PS X (k + 1) 30 36 [.ref 23, .int i1, .int i2, .int i3, .int i4] [] w r w') : if i3 ≤ i4 then (r = some (.int (-1)) ∧ w' = w) else (∃ (r1 : Option Value) (w2 : pm_W), PS X k 31 0 [.int i4] [] w r1 w2 ∧ (∀ x3 : Nat, r1 = some (.retAddr x3) → SK w2 → (∃ (r4 : Option Value) (w5 : pm_W), PS X k 32 0 [.ref 23, .retAddr x3, pm_dead] [] w2 r4 w5 ∧ (∀ x6 : Int32, r4 = some (.int x6) → SK w5 → (if x6 = 0 then (PS X k 30 36 [.ref 23, .int i1, .int i2, .int i3, .int (i4 + 1)] [] w5 r w') else (r = some (.int i4) ∧ w' = w5)))))) := by
  have h := sp_one (i := .iload 4) (by decide +kernel) rfl h
  have h := sp_onk (i := .iload_n 3) (by decide +kernel) rfl h
  rcases sp_icmp_ge (mi := 30) (pc := 39) (off := 24) (t := 63) (by decide +kernel) (by decide) rfl h with ⟨hc, h⟩ | ⟨hc, h⟩
  · refine ite_t hc ?_
    have h := sp_iconst (n := (-1)) (v := (-1)) (by decide +kernel) (by decide +kernel) h
    exact sp_iret (by decide +kernel) h
  · refine ite_f hc ?_
    have h := sp_onk (i := .aload_n 0) (by decide +kernel) rfl h
    have h := sp_onk (i := .iload 4) (by decide +kernel) rfl h
    obtain ⟨r1, w2, hc, h⟩ := sp_callS (jj := 147) (mj := 31) (n := 1) (args := [.int i4]) (ls' := [.int i4]) (by decide +kernel) (by decide +kernel) (by decide +kernel) rfl rfl rfl h
    refine ⟨r1, w2, hc, fun x3 er hSw2 => ?_⟩
    subst er
    have h : PS X k 30 48 [.ref 23, .int i1, .int i2, .int i3, .int i4] [.retAddr x3, .ref 23] w2 r w' := h
    obtain ⟨r4, w5, hc, h⟩ := sp_callV (jj := 151) (mj := 32) (n := 1) (v := .ref 23) (args := [.retAddr x3]) (ls' := [.ref 23, .retAddr x3, pm_dead]) (by decide +kernel) (by decide +kernel) rfl rfl rfl h
    refine ⟨r4, w5, hc, fun x6 er hSw5 => ?_⟩
    subst er
    have h : PS X k 30 51 [.ref 23, .int i1, .int i2, .int i3, .int i4] [.int x6] w5 r w' := h
    rcases sp_if_eq (mi := 30) (pc := 51) (off := 6) (t := 57) (by decide +kernel) (by decide) rfl h with ⟨hc, h⟩ | ⟨hc, h⟩
    · refine ite_t hc ?_
      have h := sp_iinc (j := 4) (n := 1) (v := 1) (ls' := [.ref 23, .int i1, .int i2, .int i3, .int (i4 + 1)]) (by decide +kernel) rfl (by decide +kernel) rfl h
      have h := sp_goto (mi := 30) (pc := 60) (off := (-24)) (t := 36) (by decide +kernel) (by decide) rfl h
      exact h
    · refine ite_f hc ?_
      have h := sp_onk (i := .iload 4) (by decide +kernel) rfl h
      exact sp_iret (by decide +kernel) h
set_option maxRecDepth 20000 in
set_option maxHeartbeats 2000000 in
theorem U31_0 {X : pm_X} {k : Nat} {w w' : pm_W} {r : Option Value} {p1 : Int32} (hS : SK w) (h : PS X (k + 1) 31 0 [.int p1] [] w r w') : if p1 = 0 then (r = some (.retAddr 20) ∧ w' = w) else (if p1 = 1 then (r = some (.retAddr 22) ∧ w' = w) else (if p1 = 2 then (r = some (.retAddr 24) ∧ w' = w) else (if p1 = 3 then (r = some (.retAddr 26) ∧ w' = w) else (if p1 = 4 then (r = some (.retAddr 28) ∧ w' = w) else (if p1 = 5 then (r = some (.retAddr 30) ∧ w' = w) else (if p1 = 6 then (r = some (.retAddr 32) ∧ w' = w) else (if p1 = 7 then (r = some (.retAddr 34) ∧ w' = w) else (if p1 = 8 then (r = some (.retAddr 36) ∧ w' = w) else (if p1 = 9 then (r = some (.retAddr 38) ∧ w' = w) else (if p1 = 10 then (r = some (.retAddr 40) ∧ w' = w) else (if p1 = 11 then (r = some (.retAddr 42) ∧ w' = w) else (r = some (.retAddr 44) ∧ w' = w)))))))))))) := by
  have h := sp_one (i := .iload_n 0) (by decide +kernel) rfl h
  rcases Classical.em (p1 = 0) with hc0 | hc0
  · refine ite_t hc0 ?_
    have h := sp_tabIn (mi := 31) (pc := 1) (q := 0) (off := 63) (t := 64) (df := 99) (lo := 0) (hi := 11) (offs := #[63, 66, 69, 72, 75, 78, 81, 84, 87, 90, 93, 96]) (by decide +kernel) (by rw [hc0]; decide +kernel) (by decide) (by decide +kernel) (by decide) rfl h
    have h := sp_ldcS (j := 155) (q := 20) (by decide +kernel) (by decide +kernel) (by decide +kernel) h
    exact sp_aret (by decide +kernel) h
  refine ite_f hc0 ?_
  rcases Classical.em (p1 = 1) with hc1 | hc1
  · refine ite_t hc1 ?_
    have h := sp_tabIn (mi := 31) (pc := 1) (q := 1) (off := 66) (t := 67) (df := 99) (lo := 0) (hi := 11) (offs := #[63, 66, 69, 72, 75, 78, 81, 84, 87, 90, 93, 96]) (by decide +kernel) (by rw [hc1]; decide +kernel) (by decide) (by decide +kernel) (by decide) rfl h
    have h := sp_ldcS (j := 157) (q := 22) (by decide +kernel) (by decide +kernel) (by decide +kernel) h
    exact sp_aret (by decide +kernel) h
  refine ite_f hc1 ?_
  rcases Classical.em (p1 = 2) with hc2 | hc2
  · refine ite_t hc2 ?_
    have h := sp_tabIn (mi := 31) (pc := 1) (q := 2) (off := 69) (t := 70) (df := 99) (lo := 0) (hi := 11) (offs := #[63, 66, 69, 72, 75, 78, 81, 84, 87, 90, 93, 96]) (by decide +kernel) (by rw [hc2]; decide +kernel) (by decide) (by decide +kernel) (by decide) rfl h
    have h := sp_ldcS (j := 159) (q := 24) (by decide +kernel) (by decide +kernel) (by decide +kernel) h
    exact sp_aret (by decide +kernel) h
  refine ite_f hc2 ?_
  rcases Classical.em (p1 = 3) with hc3 | hc3
  · refine ite_t hc3 ?_
    have h := sp_tabIn (mi := 31) (pc := 1) (q := 3) (off := 72) (t := 73) (df := 99) (lo := 0) (hi := 11) (offs := #[63, 66, 69, 72, 75, 78, 81, 84, 87, 90, 93, 96]) (by decide +kernel) (by rw [hc3]; decide +kernel) (by decide) (by decide +kernel) (by decide) rfl h
    have h := sp_ldcS (j := 161) (q := 26) (by decide +kernel) (by decide +kernel) (by decide +kernel) h
    exact sp_aret (by decide +kernel) h
  refine ite_f hc3 ?_
  rcases Classical.em (p1 = 4) with hc4 | hc4
  · refine ite_t hc4 ?_
    have h := sp_tabIn (mi := 31) (pc := 1) (q := 4) (off := 75) (t := 76) (df := 99) (lo := 0) (hi := 11) (offs := #[63, 66, 69, 72, 75, 78, 81, 84, 87, 90, 93, 96]) (by decide +kernel) (by rw [hc4]; decide +kernel) (by decide) (by decide +kernel) (by decide) rfl h
    have h := sp_ldcS (j := 163) (q := 28) (by decide +kernel) (by decide +kernel) (by decide +kernel) h
    exact sp_aret (by decide +kernel) h
  refine ite_f hc4 ?_
  rcases Classical.em (p1 = 5) with hc5 | hc5
  · refine ite_t hc5 ?_
    have h := sp_tabIn (mi := 31) (pc := 1) (q := 5) (off := 78) (t := 79) (df := 99) (lo := 0) (hi := 11) (offs := #[63, 66, 69, 72, 75, 78, 81, 84, 87, 90, 93, 96]) (by decide +kernel) (by rw [hc5]; decide +kernel) (by decide) (by decide +kernel) (by decide) rfl h
    have h := sp_ldcS (j := 165) (q := 30) (by decide +kernel) (by decide +kernel) (by decide +kernel) h
    exact sp_aret (by decide +kernel) h
  refine ite_f hc5 ?_
  rcases Classical.em (p1 = 6) with hc6 | hc6
  · refine ite_t hc6 ?_
    have h := sp_tabIn (mi := 31) (pc := 1) (q := 6) (off := 81) (t := 82) (df := 99) (lo := 0) (hi := 11) (offs := #[63, 66, 69, 72, 75, 78, 81, 84, 87, 90, 93, 96]) (by decide +kernel) (by rw [hc6]; decide +kernel) (by decide) (by decide +kernel) (by decide) rfl h
    have h := sp_ldcS (j := 167) (q := 32) (by decide +kernel) (by decide +kernel) (by decide +kernel) h
    exact sp_aret (by decide +kernel) h
  refine ite_f hc6 ?_
  rcases Classical.em (p1 = 7) with hc7 | hc7
  · refine ite_t hc7 ?_
    have h := sp_tabIn (mi := 31) (pc := 1) (q := 7) (off := 84) (t := 85) (df := 99) (lo := 0) (hi := 11) (offs := #[63, 66, 69, 72, 75, 78, 81, 84, 87, 90, 93, 96]) (by decide +kernel) (by rw [hc7]; decide +kernel) (by decide) (by decide +kernel) (by decide) rfl h
    have h := sp_ldcS (j := 168) (q := 34) (by decide +kernel) (by decide +kernel) (by decide +kernel) h
    exact sp_aret (by decide +kernel) h
  refine ite_f hc7 ?_
  rcases Classical.em (p1 = 8) with hc8 | hc8
  · refine ite_t hc8 ?_
    have h := sp_tabIn (mi := 31) (pc := 1) (q := 8) (off := 87) (t := 88) (df := 99) (lo := 0) (hi := 11) (offs := #[63, 66, 69, 72, 75, 78, 81, 84, 87, 90, 93, 96]) (by decide +kernel) (by rw [hc8]; decide +kernel) (by decide) (by decide +kernel) (by decide) rfl h
    have h := sp_ldcS (j := 170) (q := 36) (by decide +kernel) (by decide +kernel) (by decide +kernel) h
    exact sp_aret (by decide +kernel) h
  refine ite_f hc8 ?_
  rcases Classical.em (p1 = 9) with hc9 | hc9
  · refine ite_t hc9 ?_
    have h := sp_tabIn (mi := 31) (pc := 1) (q := 9) (off := 90) (t := 91) (df := 99) (lo := 0) (hi := 11) (offs := #[63, 66, 69, 72, 75, 78, 81, 84, 87, 90, 93, 96]) (by decide +kernel) (by rw [hc9]; decide +kernel) (by decide) (by decide +kernel) (by decide) rfl h
    have h := sp_ldcS (j := 172) (q := 38) (by decide +kernel) (by decide +kernel) (by decide +kernel) h
    exact sp_aret (by decide +kernel) h
  refine ite_f hc9 ?_
  rcases Classical.em (p1 = 10) with hc10 | hc10
  · refine ite_t hc10 ?_
    have h := sp_tabIn (mi := 31) (pc := 1) (q := 10) (off := 93) (t := 94) (df := 99) (lo := 0) (hi := 11) (offs := #[63, 66, 69, 72, 75, 78, 81, 84, 87, 90, 93, 96]) (by decide +kernel) (by rw [hc10]; decide +kernel) (by decide) (by decide +kernel) (by decide) rfl h
    have h := sp_ldcS (j := 174) (q := 40) (by decide +kernel) (by decide +kernel) (by decide +kernel) h
    exact sp_aret (by decide +kernel) h
  refine ite_f hc10 ?_
  rcases Classical.em (p1 = 11) with hc11 | hc11
  · refine ite_t hc11 ?_
    have h := sp_tabIn (mi := 31) (pc := 1) (q := 11) (off := 96) (t := 97) (df := 99) (lo := 0) (hi := 11) (offs := #[63, 66, 69, 72, 75, 78, 81, 84, 87, 90, 93, 96]) (by decide +kernel) (by rw [hc11]; decide +kernel) (by decide) (by decide +kernel) (by decide) rfl h
    have h := sp_ldcS (j := 176) (q := 42) (by decide +kernel) (by decide +kernel) (by decide +kernel) h
    exact sp_aret (by decide +kernel) h
  refine ite_f hc11 ?_
  have hout : p1.toInt < 0 ∨ 11 < p1.toInt := by
    have y0 : p1.toInt ≠ 0 := fun q => hc0 (Int32.toInt_inj.mp (by rw [q]; decide +kernel))
    have y1 : p1.toInt ≠ 1 := fun q => hc1 (Int32.toInt_inj.mp (by rw [q]; decide +kernel))
    have y2 : p1.toInt ≠ 2 := fun q => hc2 (Int32.toInt_inj.mp (by rw [q]; decide +kernel))
    have y3 : p1.toInt ≠ 3 := fun q => hc3 (Int32.toInt_inj.mp (by rw [q]; decide +kernel))
    have y4 : p1.toInt ≠ 4 := fun q => hc4 (Int32.toInt_inj.mp (by rw [q]; decide +kernel))
    have y5 : p1.toInt ≠ 5 := fun q => hc5 (Int32.toInt_inj.mp (by rw [q]; decide +kernel))
    have y6 : p1.toInt ≠ 6 := fun q => hc6 (Int32.toInt_inj.mp (by rw [q]; decide +kernel))
    have y7 : p1.toInt ≠ 7 := fun q => hc7 (Int32.toInt_inj.mp (by rw [q]; decide +kernel))
    have y8 : p1.toInt ≠ 8 := fun q => hc8 (Int32.toInt_inj.mp (by rw [q]; decide +kernel))
    have y9 : p1.toInt ≠ 9 := fun q => hc9 (Int32.toInt_inj.mp (by rw [q]; decide +kernel))
    have y10 : p1.toInt ≠ 10 := fun q => hc10 (Int32.toInt_inj.mp (by rw [q]; decide +kernel))
    have y11 : p1.toInt ≠ 11 := fun q => hc11 (Int32.toInt_inj.mp (by rw [q]; decide +kernel))
    omega
  have h := sp_tabOut (mi := 31) (pc := 1) (t := 100) (df := 99) (lo := 0) (hi := 11) (offs := #[63, 66, 69, 72, 75, 78, 81, 84, 87, 90, 93, 96]) (by decide +kernel) hout (by decide) rfl h
  have h := sp_ldcS (j := 177) (q := 44) (by decide +kernel) (by decide +kernel) (by decide +kernel) h
  exact sp_aret (by decide +kernel) h
set_option maxRecDepth 20000 in
set_option maxHeartbeats 2000000 in
theorem U32_0 {X : pm_X} {k : Nat} {w w' : pm_W} {r : Option Value} {q1 : Nat} (hS : SK w) (h : PS X (k + 1) 32 0 [.ref 23, .retAddr q1, pm_dead] [] w r w') : ∃ (r1 : Option Value) (w2 : pm_W), PS X k 33 0 [.retAddr q1] [] w r1 w2 ∧ (∀ x3 : Int32, r1 = some (.int x3) → SK w2 → (if ((gI w 23 5) - (gI w 23 7)) = x3 then (PS X k 32 20 [.ref 23, .retAddr q1, .int 0] [] w2 r w') else (r = some (.int 0) ∧ w' = w2))) := by
  have h := sp_one (i := .aload_n 0) (by decide +kernel) rfl h
  have h := sp_getI (jj := 47) (ci := 4) (n := 5) (by decide +kernel) (by decide +kernel) (by decide +kernel) hS h
  have h := sp_onk (i := .aload_n 0) (by decide +kernel) rfl h
  have h := sp_getI (jj := 69) (ci := 4) (n := 7) (by decide +kernel) (by decide +kernel) (by decide +kernel) hS h
  have h := sp_onk (i := .isub) (by decide +kernel) rfl h
  have h := sp_onk (i := .aload_n 1) (by decide +kernel) rfl h
  obtain ⟨r1, w2, hc, h⟩ := sp_callV (jj := 179) (mj := 33) (n := 0) (v := .retAddr q1) (args := []) (ls' := [.retAddr q1]) (by decide +kernel) (by decide +kernel) rfl rfl rfl h
  refine ⟨r1, w2, hc, fun x3 er hSw2 => ?_⟩
  subst er
  have h : PS X k 32 13 [.ref 23, .retAddr q1, pm_dead] [.int x3, .int ((gI w 23 5) - (gI w 23 7))] w2 r w' := h
  rcases sp_icmp_eq (mi := 32) (pc := 13) (off := 5) (t := 18) (by decide +kernel) (by decide) rfl h with ⟨hc, h⟩ | ⟨hc, h⟩
  · refine ite_t hc ?_
    have h := sp_iconst (n := 0) (v := 0) (by decide +kernel) (by decide +kernel) h
    have h := sp_istore_n (j := 2) (ls' := [.ref 23, .retAddr q1, .int 0]) (by decide +kernel) (Nat.le_of_ble_eq_true rfl) rfl h
    exact h
  · refine ite_f hc ?_
    have h := sp_iconst (n := 0) (v := 0) (by decide +kernel) (by decide +kernel) h
    exact sp_iret (by decide +kernel) h
set_option maxRecDepth 20000 in
set_option maxHeartbeats 2000000 in
theorem U32_20 {X : pm_X} {k : Nat} {w w' : pm_W} {r : Option Value} {t1 : Nat} {i2 : Int32} (hS : SK w) (h : PS X (k + 1) 32 20 [.ref 23, .retAddr t1, .int i2] [] w r w') : ∃ (r1 : Option Value) (w2 : pm_W), PS X k 33 0 [.retAddr t1] [] w r1 w2 ∧ (∀ x3 : Int32, r1 = some (.int x3) → SK w2 → (if x3 ≤ i2 then (r = some (.int 1) ∧ w' = w2) else (∃ (r4 : Option Value) (w5 : pm_W), PS X k 24 0 [.ref 23, .int ((gI w2 23 7) + i2)] [] w2 r4 w5 ∧ (∀ x6 : Int32, r4 = some (.int x6) → SK w5 → (∃ (r7 : Option Value) (w8 : pm_W), PS X k 35 0 [.retAddr t1, .int i2] [] w5 r7 w8 ∧ (∀ x9 : Int32, r7 = some (.int x9) → SK w8 → (if x6 = x9 then (PS X k 32 20 [.ref 23, .retAddr t1, .int (i2 + 1)] [] w8 r w') else (r = some (.int 0) ∧ w' = w8)))))))) := by
  have h := sp_one (i := .iload_n 2) (by decide +kernel) rfl h
  have h := sp_onk (i := .aload_n 1) (by decide +kernel) rfl h
  obtain ⟨r1, w2, hc, h⟩ := sp_callV (jj := 179) (mj := 33) (n := 0) (v := .retAddr t1) (args := []) (ls' := [.retAddr t1]) (by decide +kernel) (by decide +kernel) rfl rfl rfl h
  refine ⟨r1, w2, hc, fun x3 er hSw2 => ?_⟩
  subst er
  have h : PS X k 32 25 [.ref 23, .retAddr t1, .int i2] [.int x3, .int i2] w2 r w' := h
  rcases sp_icmp_ge (mi := 32) (pc := 25) (off := 29) (t := 54) (by decide +kernel) (by decide) rfl h with ⟨hc, h⟩ | ⟨hc, h⟩
  · refine ite_t hc ?_
    have h := sp_iconst (n := 1) (v := 1) (by decide +kernel) (by decide +kernel) h
    exact sp_iret (by decide +kernel) h
  · refine ite_f hc ?_
    have h := sp_onk (i := .aload_n 0) (by decide +kernel) rfl h
    have h := sp_onk (i := .aload_n 0) (by decide +kernel) rfl h
    have h := sp_getI (jj := 69) (ci := 4) (n := 7) (by decide +kernel) (by decide +kernel) (by decide +kernel) hSw2 h
    have h := sp_onk (i := .iload_n 2) (by decide +kernel) rfl h
    have h := sp_onk (i := .iadd) (by decide +kernel) rfl h
    obtain ⟨r4, w5, hc, h⟩ := sp_callV (jj := 184) (mj := 24) (n := 1) (v := .ref 23) (args := [.int ((gI w2 23 7) + i2)]) (ls' := [.ref 23, .int ((gI w2 23 7) + i2)]) (by decide +kernel) (by decide +kernel) rfl rfl rfl h
    refine ⟨r4, w5, hc, fun x6 er hSw5 => ?_⟩
    subst er
    have h : PS X k 32 38 [.ref 23, .retAddr t1, .int i2] [.int x6] w5 r w' := h
    have h := sp_onk (i := .aload_n 1) (by decide +kernel) rfl h
    have h := sp_onk (i := .iload_n 2) (by decide +kernel) rfl h
    obtain ⟨r7, w8, hc, h⟩ := sp_callV (jj := 187) (mj := 35) (n := 1) (v := .retAddr t1) (args := [.int i2]) (ls' := [.retAddr t1, .int i2]) (by decide +kernel) (by decide +kernel) rfl rfl rfl h
    refine ⟨r7, w8, hc, fun x9 er hSw8 => ?_⟩
    subst er
    have h : PS X k 32 43 [.ref 23, .retAddr t1, .int i2] [.int x9, .int x6] w8 r w' := h
    rcases sp_icmp_eq (mi := 32) (pc := 43) (off := 5) (t := 48) (by decide +kernel) (by decide) rfl h with ⟨hc, h⟩ | ⟨hc, h⟩
    · refine ite_t hc ?_
      have h := sp_iinc (j := 2) (n := 1) (v := 1) (ls' := [.ref 23, .retAddr t1, .int (i2 + 1)]) (by decide +kernel) rfl (by decide +kernel) rfl h
      have h := sp_goto (mi := 32) (pc := 51) (off := (-31)) (t := 20) (by decide +kernel) (by decide) rfl h
      exact h
    · refine ite_f hc ?_
      have h := sp_iconst (n := 0) (v := 0) (by decide +kernel) (by decide +kernel) h
      exact sp_iret (by decide +kernel) h
set_option maxRecDepth 20000 in
set_option maxHeartbeats 2000000 in
theorem U33_0 {X : pm_X} {k : Nat} {w w' : pm_W} {r : Option Value} {s : Nat} (hS : SK w) (h : PS X (k + 1) 33 0 [.retAddr s] [] w r w') : ∃ (r1 : Option Value) (w2 : pm_W), PS X k 34 0 [.retAddr s] [] w r1 w2 ∧ (∀ x3 : Int32, r1 = some (.int x3) → SK w2 → (r = some (.int ((Int32.ofNat (xA X (xB X s)).length) >>> (x3 &&& 31))) ∧ w' = w2)) := by
  have h := sp_one (i := .aload_n 0) (by decide +kernel) rfl h
  have h := sp_getX (jj := 9) (z := 1) (by decide +kernel) (by decide +kernel) h
  have h := sp_alenX (by decide +kernel) h
  have h := sp_onk (i := .aload_n 0) (by decide +kernel) rfl h
  obtain ⟨r1, w2, hc, h⟩ := sp_callV (jj := 335) (mj := 34) (n := 0) (v := .retAddr s) (args := []) (ls' := [.retAddr s]) (by decide +kernel) (by decide +kernel) rfl rfl rfl h
  refine ⟨r1, w2, hc, fun x3 er hSw2 => ?_⟩
  subst er
  have h : PS X k 33 9 [.retAddr s] [.int x3, .int (Int32.ofNat (xA X (xB X s)).length)] w2 r w' := h
  have h := sp_onk (i := .ishr) (by decide +kernel) rfl h
  exact sp_iret (by decide +kernel) h
set_option maxRecDepth 20000 in
set_option maxHeartbeats 2000000 in
theorem U34_0 {X : pm_X} {k : Nat} {w w' : pm_W} {r : Option Value} {s : Nat} (hS : SK w) (h : PS X (k + 1) 34 0 [.retAddr s] [] w r w') : r = some (.int 0) ∧ w' = w := by
  have h := sp_static1 (j := 38) (v := .int 1) (by decide +kernel) (by decide +kernel) h
  rcases sp_if_eq (mi := 34) (pc := 3) (off := 10) (t := 13) (by decide +kernel) (by decide) rfl h with ⟨hc, h⟩ | ⟨hc, h⟩
  case inl => exact absurd hc (by decide +kernel)
  have h := sp_onk (i := .aload_n 0) (by decide +kernel) rfl h
  have h := sp_getX (jj := 15) (z := 0) (by decide +kernel) (by decide +kernel) h
  have h := sp_goto (mi := 34) (pc := 10) (off := 4) (t := 14) (by decide +kernel) (by decide) rfl h
  exact sp_iret (by decide +kernel) h
set_option maxRecDepth 20000 in
set_option maxHeartbeats 2000000 in
theorem U35_0 {X : pm_X} {k : Nat} {w w' : pm_W} {r : Option Value} {s : Nat} {p1 : Int32} (hS : SK w) (h : PS X (k + 1) 35 0 [.retAddr s, .int p1] [] w r w') : ∃ (r1 : Option Value) (w2 : pm_W), PS X k 36 0 [.retAddr s] [] w r1 w2 ∧ (∀ x3 : Int32, r1 = some (.int x3) → SK w2 → (if x3 = 0 then (∃ (r4 : Option Value) (w5 : pm_W), PS X k 40 0 [.retAddr (xB X s), .int p1] [] w2 r4 w5 ∧ (∀ x6 : Int32, r4 = some (.int x6) → SK w5 → (r = some (.int x6) ∧ w' = w5))) else (∃ (r7 : Option Value) (w8 : pm_W), PS X k 37 0 [.retAddr (xB X s), .int p1] [] w2 r7 w8 ∧ (∀ x9 : Int32, r7 = some (.int x9) → SK w8 → (r = some (.int x9) ∧ w' = w8))))) := by
  have h := sp_one (i := .aload_n 0) (by decide +kernel) rfl h
  obtain ⟨r1, w2, hc, h⟩ := sp_callV (jj := 492) (mj := 36) (n := 0) (v := .retAddr s) (args := []) (ls' := [.retAddr s]) (by decide +kernel) (by decide +kernel) rfl rfl rfl h
  refine ⟨r1, w2, hc, fun x3 er hSw2 => ?_⟩
  subst er
  have h : PS X k 35 4 [.retAddr s, .int p1] [.int x3] w2 r w' := h
  rcases sp_if_eq (mi := 35) (pc := 4) (off := 12) (t := 16) (by decide +kernel) (by decide) rfl h with ⟨hc, h⟩ | ⟨hc, h⟩
  · refine ite_t hc ?_
    have h := sp_onk (i := .aload_n 0) (by decide +kernel) rfl h
    have h := sp_getX (jj := 9) (z := 1) (by decide +kernel) (by decide +kernel) h
    have h := sp_onk (i := .iload_n 1) (by decide +kernel) rfl h
    obtain ⟨r4, w5, hc, h⟩ := sp_callS (jj := 498) (mj := 40) (n := 2) (args := [.int p1, .retAddr (xB X s)]) (ls' := [.retAddr (xB X s), .int p1]) (by decide +kernel) (by decide +kernel) (by decide +kernel) rfl rfl rfl h
    refine ⟨r4, w5, hc, fun x6 er hSw5 => ?_⟩
    subst er
    have h : PS X k 35 24 [.retAddr s, .int p1] [.int x6] w5 r w' := h
    exact sp_iret (by decide +kernel) h
  · refine ite_f hc ?_
    have h := sp_onk (i := .aload_n 0) (by decide +kernel) rfl h
    have h := sp_getX (jj := 9) (z := 1) (by decide +kernel) (by decide +kernel) h
    have h := sp_onk (i := .iload_n 1) (by decide +kernel) rfl h
    obtain ⟨r7, w8, hc, h⟩ := sp_callS (jj := 495) (mj := 37) (n := 2) (args := [.int p1, .retAddr (xB X s)]) (ls' := [.retAddr (xB X s), .int p1]) (by decide +kernel) (by decide +kernel) (by decide +kernel) rfl rfl rfl h
    refine ⟨r7, w8, hc, fun x9 er hSw8 => ?_⟩
    subst er
    have h : PS X k 35 15 [.retAddr s, .int p1] [.int x9] w8 r w' := h
    exact sp_iret (by decide +kernel) h
set_option maxRecDepth 20000 in
set_option maxHeartbeats 2000000 in
theorem U36_0 {X : pm_X} {k : Nat} {w w' : pm_W} {r : Option Value} {s : Nat} (hS : SK w) (h : PS X (k + 1) 36 0 [.retAddr s] [] w r w') : r = some (.int 1) ∧ w' = w := by
  have h := sp_static1 (j := 38) (v := .int 1) (by decide +kernel) (by decide +kernel) h
  rcases sp_if_eq (mi := 36) (pc := 3) (off := 14) (t := 17) (by decide +kernel) (by decide) rfl h with ⟨hc, h⟩ | ⟨hc, h⟩
  case inl => exact absurd hc (by decide +kernel)
  have h := sp_onk (i := .aload_n 0) (by decide +kernel) rfl h
  have h := sp_getX (jj := 15) (z := 0) (by decide +kernel) (by decide +kernel) h
  rcases sp_if_ne (mi := 36) (pc := 10) (off := 7) (t := 17) (by decide +kernel) (by decide) rfl h with ⟨hc, h⟩ | ⟨hc, h⟩
  case inl => exact absurd hc (by decide +kernel)
  have h := sp_iconst (n := 1) (v := 1) (by decide +kernel) (by decide +kernel) h
  have h := sp_goto (mi := 36) (pc := 14) (off := 4) (t := 18) (by decide +kernel) (by decide) rfl h
  exact sp_iret (by decide +kernel) h
set_option maxRecDepth 20000 in
set_option maxHeartbeats 2000000 in
theorem U37_0 {X : pm_X} {k : Nat} {w w' : pm_W} {r : Option Value} {q1 : Nat} {p2 : Int32} (hS : SK w) (h : PS X (k + 1) 37 0 [.retAddr q1, .int p2] [] w r w') : ∃ (r1 : Option Value) (w2 : pm_W), PS X k 38 0 [.int p2, .int (Int32.ofNat (xA X q1).length)] [] w r1 w2 ∧ (r1 = none → SK w2 → (iN p2 (xA X q1).length ∧ (r = some (.int (((((xA X q1).getD p2.toNatClampNeg 0) &&& 255).toUInt32 % 65536).toInt32)) ∧ w' = w2))) := by
  have h := sp_one (i := .iload_n 1) (by decide +kernel) rfl h
  have h := sp_onk (i := .aload_n 0) (by decide +kernel) rfl h
  have h := sp_alenX (by decide +kernel) h
  obtain ⟨r1, w2, hc, h⟩ := sp_callS (jj := 9) (mj := 38) (n := 2) (args := [.int (Int32.ofNat (xA X q1).length), .int p2]) (ls' := [.int p2, .int (Int32.ofNat (xA X q1).length)]) (by decide +kernel) (by decide +kernel) (by decide +kernel) rfl rfl rfl h
  refine ⟨r1, w2, hc, fun er hSw2 => ?_⟩
  subst er
  have h : PS X k 37 6 [.retAddr q1, .int p2] [] w2 r w' := h
  have h := sp_onk (i := .aload_n 0) (by decide +kernel) rfl h
  have h := sp_onk (i := .iload_n 1) (by decide +kernel) rfl h
  obtain ⟨hi, h⟩ := sp_baldX (by decide +kernel) h
  refine ⟨hi, ?_⟩
  have h := sp_sipush (n := 255) (v := 255) (by decide +kernel) (by decide +kernel) h
  have h := sp_onk (i := .iand) (by decide +kernel) rfl h
  have h := sp_onk (i := .i2c) (by decide +kernel) rfl h
  exact sp_iret (by decide +kernel) h
set_option maxRecDepth 20000 in
set_option maxHeartbeats 2000000 in
theorem U38_0 {X : pm_X} {k : Nat} {w w' : pm_W} {r : Option Value} {p1 : Int32} {p2 : Int32} (hS : SK w) (h : PS X (k + 1) 38 0 [.int p1, .int p2] [] w r w') : ∃ (r1 : Option Value) (w2 : pm_W), PS X k 39 0 [.int p1, .int p2, .retAddr 99] [] w r1 w2 ∧ (∀ x3 : Int32, r1 = some (.int x3) → SK w2 → (r = none ∧ w' = w2)) := by
  have h := sp_one (i := .iload_n 0) (by decide +kernel) rfl h
  have h := sp_onk (i := .iload_n 1) (by decide +kernel) rfl h
  have h := sp_static (j := 1053) (v := .retAddr 99) (by decide +kernel) (by decide +kernel) h
  obtain ⟨r1, w2, hc, h⟩ := sp_callS (jj := 1059) (mj := 39) (n := 3) (args := [.retAddr 99, .int p2, .int p1]) (ls' := [.int p1, .int p2, .retAddr 99]) (by decide +kernel) (by decide +kernel) (by decide +kernel) rfl rfl rfl h
  refine ⟨r1, w2, hc, fun x3 er hSw2 => ?_⟩
  subst er
  have h : PS X k 38 8 [.int p1, .int p2] [.int x3] w2 r w' := h
  have h := sp_onk (i := .pop) (by decide +kernel) rfl h
  exact sp_vret (by decide +kernel) h
set_option maxRecDepth 20000 in
set_option maxHeartbeats 2000000 in
theorem U39_0 {X : pm_X} {k : Nat} {w w' : pm_W} {r : Option Value} {p1 : Int32} {p2 : Int32} {q3 : Nat} (hS : SK w) (h : PS X (k + 1) 39 0 [.int p1, .int p2, .retAddr q3] [] w r w') : if p1 < 0 then (False) else (if p1 < p2 then (r = some (.int p1) ∧ w' = w) else (False)) := by
  have h := sp_one (i := .iload_n 0) (by decide +kernel) rfl h
  rcases sp_if_lt (mi := 39) (pc := 1) (off := 8) (t := 9) (by decide +kernel) (by decide) rfl h with ⟨hc, h⟩ | ⟨hc, h⟩
  · refine ite_t hc ?_
    have h := sp_onk (i := .aload_n 2) (by decide +kernel) rfl h
    have h := sp_onk (i := .iload_n 0) (by decide +kernel) rfl h
    have h := sp_onk (i := .iload_n 1) (by decide +kernel) rfl h
    exact (sp_noS (jj := 95) (by decide +kernel) (by decide +kernel) (by decide +kernel) h).elim
  · refine ite_f hc ?_
    have h := sp_onk (i := .iload_n 0) (by decide +kernel) rfl h
    have h := sp_onk (i := .iload_n 1) (by decide +kernel) rfl h
    rcases sp_icmp_lt (mi := 39) (pc := 6) (off := 10) (t := 16) (by decide +kernel) (by decide) rfl h with ⟨hc, h⟩ | ⟨hc, h⟩
    · refine ite_t hc ?_
      have h := sp_onk (i := .iload_n 0) (by decide +kernel) rfl h
      exact sp_iret (by decide +kernel) h
    · refine ite_f hc ?_
      have h := sp_onk (i := .aload_n 2) (by decide +kernel) rfl h
      have h := sp_onk (i := .iload_n 0) (by decide +kernel) rfl h
      have h := sp_onk (i := .iload_n 1) (by decide +kernel) rfl h
      exact (sp_noS (jj := 95) (by decide +kernel) (by decide +kernel) (by decide +kernel) h).elim
set_option maxRecDepth 20000 in
set_option maxHeartbeats 2000000 in
theorem U44_0 {X : pm_X} {k : Nat} {w w' : pm_W} {r : Option Value} {p1 : Int32} (hS : SK w) (h : PS X (k + 1) 44 0 [.ref 23, .int p1] [] w r w') : if p1 = 12 then (if (gI w 24 2) < 7 then (r = some (.int 0) ∧ w' = w) else (r = some (.int 1) ∧ w' = w)) else (∃ (r1 : Option Value) (w2 : pm_W), PS X k 45 0 [.int p1] [] w r1 w2 ∧ (∀ x3 : Int32, r1 = some (.int x3) → SK w2 → (if x3 = 0 then (r = some (.int 0) ∧ w' = w2) else (if (gI w2 29 0) < 30 then (r = some (.int 0) ∧ w' = w2) else (r = some (.int 1) ∧ w' = w2))))) := by
  have h := sp_one (i := .iload_n 1) (by decide +kernel) rfl h
  have h := sp_bipush (n := 12) (v := 12) (by decide +kernel) (by decide +kernel) h
  rcases sp_icmp_ne (mi := 44) (pc := 3) (off := 21) (t := 24) (by decide +kernel) (by decide) rfl h with ⟨hc, h⟩ | ⟨hc, h⟩
  · refine ite_f hc ?_
    have h := sp_onk (i := .iload_n 1) (by decide +kernel) rfl h
    obtain ⟨r1, w2, hc, h⟩ := sp_callS (jj := 101) (mj := 45) (n := 1) (args := [.int p1]) (ls' := [.int p1]) (by decide +kernel) (by decide +kernel) (by decide +kernel) rfl rfl rfl h
    refine ⟨r1, w2, hc, fun x3 er hSw2 => ?_⟩
    subst er
    have h : PS X k 44 28 [.ref 23, .int p1] [.int x3] w2 r w' := h
    rcases sp_if_eq (mi := 44) (pc := 28) (off := 19) (t := 47) (by decide +kernel) (by decide) rfl h with ⟨hc, h⟩ | ⟨hc, h⟩
    · refine ite_t hc ?_
      have h := sp_iconst (n := 0) (v := 0) (by decide +kernel) (by decide +kernel) h
      exact sp_iret (by decide +kernel) h
    · refine ite_f hc ?_
      have h := sp_onk (i := .aload_n 0) (by decide +kernel) rfl h
      have h := sp_getK (jj := 21) (ci := 4) (n := 1) (b := 29) (by decide +kernel) (by decide +kernel) (by decide +kernel) (by decide +kernel) (by decide) hSw2 h
      have h := sp_getI (jj := 104) (ci := 5) (n := 0) (by decide +kernel) (by decide +kernel) (by decide +kernel) hSw2 h
      have h := sp_bipush (n := 30) (v := 30) (by decide +kernel) (by decide +kernel) h
      rcases sp_icmp_lt (mi := 44) (pc := 40) (off := 7) (t := 47) (by decide +kernel) (by decide) rfl h with ⟨hc, h⟩ | ⟨hc, h⟩
      · refine ite_t hc ?_
        have h := sp_iconst (n := 0) (v := 0) (by decide +kernel) (by decide +kernel) h
        exact sp_iret (by decide +kernel) h
      · refine ite_f hc ?_
        have h := sp_iconst (n := 1) (v := 1) (by decide +kernel) (by decide +kernel) h
        have h := sp_goto (mi := 44) (pc := 44) (off := 4) (t := 48) (by decide +kernel) (by decide) rfl h
        exact sp_iret (by decide +kernel) h
  · refine ite_t (Classical.not_not.mp hc) ?_
    have h := sp_onk (i := .aload_n 0) (by decide +kernel) rfl h
    have h := sp_getK (jj := 12) (ci := 4) (n := 0) (b := 24) (by decide +kernel) (by decide +kernel) (by decide +kernel) (by decide +kernel) (by decide) hS h
    have h := sp_getI (jj := 98) (ci := 9) (n := 2) (by decide +kernel) (by decide +kernel) (by decide +kernel) hS h
    have h := sp_bipush (n := 7) (v := 7) (by decide +kernel) (by decide +kernel) h
    rcases sp_icmp_lt (mi := 44) (pc := 15) (off := 7) (t := 22) (by decide +kernel) (by decide) rfl h with ⟨hc, h⟩ | ⟨hc, h⟩
    · refine ite_t hc ?_
      have h := sp_iconst (n := 0) (v := 0) (by decide +kernel) (by decide +kernel) h
      exact sp_iret (by decide +kernel) h
    · refine ite_f hc ?_
      have h := sp_iconst (n := 1) (v := 1) (by decide +kernel) (by decide +kernel) h
      have h := sp_goto (mi := 44) (pc := 19) (off := 4) (t := 23) (by decide +kernel) (by decide) rfl h
      exact sp_iret (by decide +kernel) h
set_option maxRecDepth 20000 in
set_option maxHeartbeats 2000000 in
theorem U45_0 {X : pm_X} {k : Nat} {w w' : pm_W} {r : Option Value} {p1 : Int32} (hS : SK w) (h : PS X (k + 1) 45 0 [.int p1] [] w r w') : if 5 < p1 then (r = some (.int 0) ∧ w' = w) else (r = some (.int 1) ∧ w' = w) := by
  have h := sp_one (i := .iload_n 0) (by decide +kernel) rfl h
  have h := sp_iconst (n := 5) (v := 5) (by decide +kernel) (by decide +kernel) h
  rcases sp_icmp_gt (mi := 45) (pc := 2) (off := 7) (t := 9) (by decide +kernel) (by decide) rfl h with ⟨hc, h⟩ | ⟨hc, h⟩
  · refine ite_t hc ?_
    have h := sp_iconst (n := 0) (v := 0) (by decide +kernel) (by decide +kernel) h
    exact sp_iret (by decide +kernel) h
  · refine ite_f hc ?_
    have h := sp_iconst (n := 1) (v := 1) (by decide +kernel) (by decide +kernel) h
    have h := sp_goto (mi := 45) (pc := 6) (off := 4) (t := 10) (by decide +kernel) (by decide) rfl h
    exact sp_iret (by decide +kernel) h
set_option maxRecDepth 20000 in
set_option maxHeartbeats 2000000 in
theorem U46_0 {X : pm_X} {k : Nat} {w w' : pm_W} {r : Option Value} {p1 : Int32} {p2 : Int32} (hS : SK w) (h : PS X (k + 1) 46 0 [.ref 23, .int p1, .int p2] [] w r w') : if (gI w 23 10) = 0 then (∀ w1 : pm_W, w1 = sI w 23 10 p1 → (∀ w2 : pm_W, w2 = sI w1 23 11 p2 → (r = none ∧ w' = w2))) else (r = none ∧ w' = w) := by
  have h := sp_one (i := .aload_n 0) (by decide +kernel) rfl h
  have h := sp_getI (jj := 53) (ci := 4) (n := 10) (by decide +kernel) (by decide +kernel) (by decide +kernel) hS h
  rcases sp_if_ne (mi := 46) (pc := 4) (off := 13) (t := 17) (by decide +kernel) (by decide) rfl h with ⟨hc, h⟩ | ⟨hc, h⟩
  · refine ite_f hc ?_
    exact sp_vret (by decide +kernel) h
  · refine ite_t (Classical.not_not.mp hc) ?_
    have h := sp_onk (i := .aload_n 0) (by decide +kernel) rfl h
    have h := sp_onk (i := .iload_n 1) (by decide +kernel) rfl h
    have h := sp_putI (jj := 53) (ci := 4) (n := 10) (ty := .int) (by decide +kernel) (by decide +kernel) (by decide +kernel) hS h
    intro w1 ew1
    rw [← ew1] at h
    have hSw1 : SK w1 := by rw [ew1]; exact SK_sI hS
    have h := sp_onk (i := .aload_n 0) (by decide +kernel) rfl h
    have h := sp_onk (i := .iload_n 2) (by decide +kernel) rfl h
    have h := sp_putI (jj := 56) (ci := 4) (n := 11) (ty := .int) (by decide +kernel) (by decide +kernel) (by decide +kernel) hSw1 h
    intro w2 ew2
    rw [← ew2] at h
    have hSw2 : SK w2 := by rw [ew2]; exact SK_sI hSw1
    exact sp_vret (by decide +kernel) h
set_option maxRecDepth 20000 in
set_option maxHeartbeats 2000000 in
theorem U47_0 {X : pm_X} {k : Nat} {w w' : pm_W} {r : Option Value} {p1 : Int32} {p2 : Int32} (hS : SK w) (h : PS X (k + 1) 47 0 [.ref 23, .int p1, .int p2, pm_dead] [] w r w') : iN ((p1 * 4) + (if 3 < p2 then 3 else p2)) (xA X 2).length ∧ (if (gI w 23 8) < ((xA X 2).getD ((p1 * 4) + (if 3 < p2 then 3 else p2)).toNatClampNeg 0) then (PS X k 47 43 [.ref 23, .int p1, .int p2, .int ((p1 * 4) + (if 3 < p2 then 3 else p2))] [] w r w') else (iN ((p1 * 4) + (if 3 < p2 then 3 else p2)) (xA X 3).length ∧ (if ((xA X 3).getD ((p1 * 4) + (if 3 < p2 then 3 else p2)).toNatClampNeg 0) < (gI w 23 8) then (PS X k 47 43 [.ref 23, .int p1, .int p2, .int ((p1 * 4) + (if 3 < p2 then 3 else p2))] [] w r w') else (∃ (r1 : Option Value) (w2 : pm_W), PS X k 48 0 [.ref 23, .int p1, .int p2, pm_dead] [] w r1 w2 ∧ (∀ x3 : Int32, r1 = some (.int x3) → SK w2 → (if x3 = 0 then (PS X k 47 52 [.ref 23, .int p1, .int p2, .int ((p1 * 4) + (if 3 < p2 then 3 else p2))] [] w2 r w') else (PS X k 47 43 [.ref 23, .int p1, .int p2, .int ((p1 * 4) + (if 3 < p2 then 3 else p2))] [] w2 r w'))))))) := by
  have h := sp_one (i := .iload_n 1) (by decide +kernel) rfl h
  have h := sp_iconst (n := 4) (v := 4) (by decide +kernel) (by decide +kernel) h
  have h := sp_onk (i := .imul) (by decide +kernel) rfl h
  have h := sp_onk (i := .iload_n 2) (by decide +kernel) rfl h
  have h := sp_iconst (n := 3) (v := 3) (by decide +kernel) (by decide +kernel) h
  have h := sp_min (j := 37) (by decide +kernel) (by decide +kernel) (by decide +kernel) h
  have h := sp_onk (i := .iadd) (by decide +kernel) rfl h
  have h := sp_istore_n (j := 3) (ls' := [.ref 23, .int p1, .int p2, .int ((p1 * 4) + (if 3 < p2 then 3 else p2))]) (by decide +kernel) (Nat.le_of_ble_eq_true rfl) rfl h
  have h := sp_onk (i := .aload_n 0) (by decide +kernel) rfl h
  have h := sp_getI (jj := 92) (ci := 4) (n := 8) (by decide +kernel) (by decide +kernel) (by decide +kernel) hS h
  have h := sp_static (j := 107) (v := .retAddr 2) (by decide +kernel) (by decide +kernel) h
  have h := sp_onk (i := .iload_n 3) (by decide +kernel) rfl h
  obtain ⟨hi, h⟩ := sp_ialdX (by decide +kernel) h
  refine ⟨hi, ?_⟩
  rcases sp_icmp_lt (mi := 47) (pc := 19) (off := 24) (t := 43) (by decide +kernel) (by decide) rfl h with ⟨hc, h⟩ | ⟨hc, h⟩
  · refine ite_t hc ?_
    exact h
  · refine ite_f hc ?_
    have h := sp_onk (i := .aload_n 0) (by decide +kernel) rfl h
    have h := sp_getI (jj := 92) (ci := 4) (n := 8) (by decide +kernel) (by decide +kernel) (by decide +kernel) hS h
    have h := sp_static (j := 110) (v := .retAddr 3) (by decide +kernel) (by decide +kernel) h
    have h := sp_onk (i := .iload_n 3) (by decide +kernel) rfl h
    obtain ⟨hi, h⟩ := sp_ialdX (by decide +kernel) h
    refine ⟨hi, ?_⟩
    rcases sp_icmp_gt (mi := 47) (pc := 31) (off := 12) (t := 43) (by decide +kernel) (by decide) rfl h with ⟨hc, h⟩ | ⟨hc, h⟩
    · refine ite_t hc ?_
      exact h
    · refine ite_f hc ?_
      have h := sp_onk (i := .aload_n 0) (by decide +kernel) rfl h
      have h := sp_onk (i := .iload_n 1) (by decide +kernel) rfl h
      have h := sp_onk (i := .iload_n 2) (by decide +kernel) rfl h
      obtain ⟨r1, w2, hc, h⟩ := sp_callV (jj := 113) (mj := 48) (n := 2) (v := .ref 23) (args := [.int p2, .int p1]) (ls' := [.ref 23, .int p1, .int p2, pm_dead]) (by decide +kernel) (by decide +kernel) rfl rfl rfl h
      refine ⟨r1, w2, hc, fun x3 er hSw2 => ?_⟩
      subst er
      have h : PS X k 47 40 [.ref 23, .int p1, .int p2, .int ((p1 * 4) + (if 3 < p2 then 3 else p2))] [.int x3] w2 r w' := h
      rcases sp_if_eq (mi := 47) (pc := 40) (off := 12) (t := 52) (by decide +kernel) (by decide) rfl h with ⟨hc, h⟩ | ⟨hc, h⟩
      · refine ite_t hc ?_
        exact h
      · refine ite_f hc ?_
        exact h
set_option maxRecDepth 20000 in
set_option maxHeartbeats 2000000 in
theorem U47_43 {X : pm_X} {k : Nat} {w w' : pm_W} {r : Option Value} {i1 : Int32} {i2 : Int32} {i3 : Int32} (hS : SK w) (h : PS X (k + 1) 47 43 [.ref 23, .int i1, .int i2, .int i3] [] w r w') : ∃ (r1 : Option Value) (w2 : pm_W), PS X k 46 0 [.ref 23, .int 2, .int (gI w 23 7)] [] w r1 w2 ∧ (r1 = none → SK w2 → (PS X k 47 52 [.ref 23, .int i1, .int i2, .int i3] [] w2 r w')) := by
  have h := sp_one (i := .aload_n 0) (by decide +kernel) rfl h
  have h := sp_iconst (n := 2) (v := 2) (by decide +kernel) (by decide +kernel) h
  have h := sp_onk (i := .aload_n 0) (by decide +kernel) rfl h
  have h := sp_getI (jj := 69) (ci := 4) (n := 7) (by decide +kernel) (by decide +kernel) (by decide +kernel) hS h
  obtain ⟨r1, w2, hc, h⟩ := sp_callV (jj := 75) (mj := 46) (n := 2) (v := .ref 23) (args := [.int (gI w 23 7), .int 2]) (ls' := [.ref 23, .int 2, .int (gI w 23 7)]) (by decide +kernel) (by decide +kernel) rfl rfl rfl h
  refine ⟨r1, w2, hc, fun er hSw2 => ?_⟩
  subst er
  have h : PS X k 47 52 [.ref 23, .int i1, .int i2, .int i3] [] w2 r w' := h
  exact h
set_option maxRecDepth 20000 in
set_option maxHeartbeats 2000000 in
theorem U47_52 {X : pm_X} {k : Nat} {w w' : pm_W} {r : Option Value} {i1 : Int32} {i2 : Int32} {i3 : Int32} (hS : SK w) (h : PS X (k + 1) 47 52 [.ref 23, .int i1, .int i2, .int i3] [] w r w') : if i2 < 8 then (PS X k 47 67 [.ref 23, .int i1, .int i2, .int i3] [] w r w') else (∃ (r1 : Option Value) (w2 : pm_W), PS X k 46 0 [.ref 23, .int 3, .int (gI w 23 7)] [] w r1 w2 ∧ (r1 = none → SK w2 → (PS X k 47 67 [.ref 23, .int i1, .int i2, .int i3] [] w2 r w'))) := by
  have h := sp_one (i := .iload_n 2) (by decide +kernel) rfl h
  have h := sp_bipush (n := 8) (v := 8) (by decide +kernel) (by decide +kernel) h
  rcases sp_icmp_lt (mi := 47) (pc := 55) (off := 12) (t := 67) (by decide +kernel) (by decide) rfl h with ⟨hc, h⟩ | ⟨hc, h⟩
  · refine ite_t hc ?_
    exact h
  · refine ite_f hc ?_
    have h := sp_onk (i := .aload_n 0) (by decide +kernel) rfl h
    have h := sp_iconst (n := 3) (v := 3) (by decide +kernel) (by decide +kernel) h
    have h := sp_onk (i := .aload_n 0) (by decide +kernel) rfl h
    have h := sp_getI (jj := 69) (ci := 4) (n := 7) (by decide +kernel) (by decide +kernel) (by decide +kernel) hS h
    obtain ⟨r1, w2, hc, h⟩ := sp_callV (jj := 75) (mj := 46) (n := 2) (v := .ref 23) (args := [.int (gI w 23 7), .int 3]) (ls' := [.ref 23, .int 3, .int (gI w 23 7)]) (by decide +kernel) (by decide +kernel) rfl rfl rfl h
    refine ⟨r1, w2, hc, fun er hSw2 => ?_⟩
    subst er
    have h : PS X k 47 67 [.ref 23, .int i1, .int i2, .int i3] [] w2 r w' := h
    exact h
set_option maxRecDepth 20000 in
set_option maxHeartbeats 2000000 in
theorem U47_67 {X : pm_X} {k : Nat} {w w' : pm_W} {r : Option Value} {i1 : Int32} {i2 : Int32} {i3 : Int32} (hS : SK w) (h : PS X (k + 1) 47 67 [.ref 23, .int i1, .int i2, .int i3] [] w r w') : r = none ∧ w' = w := by
  exact sp_vret (by decide +kernel) h
set_option maxRecDepth 20000 in
set_option maxHeartbeats 2000000 in
theorem U48_0 {X : pm_X} {k : Nat} {w w' : pm_W} {r : Option Value} {p1 : Int32} {p2 : Int32} (hS : SK w) (h : PS X (k + 1) 48 0 [.ref 23, .int p1, .int p2, pm_dead] [] w r w') : if p1 = 0 then (if p2 = 1 then (aI w 31 0 ∧ (if (gI w 23 8) = (aG w 31 0) then (r = some (.int 1) ∧ w' = w) else (r = some (.int 0) ∧ w' = w))) else (r = some (.int 0) ∧ w' = w)) else (if p1 = 1 then (if p2 = 1 then (aI w 31 0 ∧ (if (gI w 23 8) = (aG w 31 0) then (r = some (.int 1) ∧ w' = w) else (r = some (.int 0) ∧ w' = w))) else (r = some (.int 0) ∧ w' = w)) else (if p1 = 7 then (if p2 = 1 then (aI w 31 0 ∧ (if (gI w 23 8) = (aG w 31 0) then (r = some (.int 1) ∧ w' = w) else (r = some (.int 0) ∧ w' = w))) else (r = some (.int 0) ∧ w' = w)) else (if p1 = 12 then (if p2 = 1 then (aI w 31 0 ∧ (if (gI w 23 8) = (aG w 31 0) then (r = some (.int 1) ∧ w' = w) else (r = some (.int 0) ∧ w' = w))) else (r = some (.int 0) ∧ w' = w)) else (if p1 = 2 then (PS X k 48 54 [.ref 23, .int p1, .int p2, .int 2] [] w r w') else (r = some (.int 0) ∧ w' = w))))) := by
  have h := sp_one (i := .iload_n 1) (by decide +kernel) rfl h
  rcases sp_if_eq (mi := 48) (pc := 1) (off := 20) (t := 21) (by decide +kernel) (by decide) rfl h with ⟨hc, h⟩ | ⟨hc, h⟩
  · refine ite_t hc ?_
    have h := sp_onk (i := .iload_n 2) (by decide +kernel) rfl h
    have h := sp_iconst (n := 1) (v := 1) (by decide +kernel) (by decide +kernel) h
    rcases sp_icmp_ne (mi := 48) (pc := 23) (off := 20) (t := 43) (by decide +kernel) (by decide) rfl h with ⟨hc, h⟩ | ⟨hc, h⟩
    · refine ite_f hc ?_
      have h := sp_iconst (n := 0) (v := 0) (by decide +kernel) (by decide +kernel) h
      exact sp_iret (by decide +kernel) h
    · refine ite_t (Classical.not_not.mp hc) ?_
      have h := sp_onk (i := .aload_n 0) (by decide +kernel) rfl h
      have h := sp_getI (jj := 92) (ci := 4) (n := 8) (by decide +kernel) (by decide +kernel) (by decide +kernel) hS h
      have h := sp_onk (i := .aload_n 0) (by decide +kernel) rfl h
      have h := sp_getK (jj := 25) (ci := 4) (n := 2) (b := 31) (by decide +kernel) (by decide +kernel) (by decide +kernel) (by decide +kernel) (by decide) hS h
      have h := sp_iconst (n := 0) (v := 0) (by decide +kernel) (by decide +kernel) h
      obtain ⟨hi, h⟩ := sp_iald (by decide +kernel) h
      refine ⟨hi, ?_⟩
      rcases sp_icmp_ne (mi := 48) (pc := 36) (off := 7) (t := 43) (by decide +kernel) (by decide) rfl h with ⟨hc, h⟩ | ⟨hc, h⟩
      · refine ite_f hc ?_
        have h := sp_iconst (n := 0) (v := 0) (by decide +kernel) (by decide +kernel) h
        exact sp_iret (by decide +kernel) h
      · refine ite_t (Classical.not_not.mp hc) ?_
        have h := sp_iconst (n := 1) (v := 1) (by decide +kernel) (by decide +kernel) h
        have h := sp_goto (mi := 48) (pc := 40) (off := 4) (t := 44) (by decide +kernel) (by decide) rfl h
        exact sp_iret (by decide +kernel) h
  · refine ite_f hc ?_
    have h := sp_onk (i := .iload_n 1) (by decide +kernel) rfl h
    have h := sp_iconst (n := 1) (v := 1) (by decide +kernel) (by decide +kernel) h
    rcases sp_icmp_eq (mi := 48) (pc := 6) (off := 15) (t := 21) (by decide +kernel) (by decide) rfl h with ⟨hc, h⟩ | ⟨hc, h⟩
    · refine ite_t hc ?_
      have h := sp_onk (i := .iload_n 2) (by decide +kernel) rfl h
      have h := sp_iconst (n := 1) (v := 1) (by decide +kernel) (by decide +kernel) h
      rcases sp_icmp_ne (mi := 48) (pc := 23) (off := 20) (t := 43) (by decide +kernel) (by decide) rfl h with ⟨hc, h⟩ | ⟨hc, h⟩
      · refine ite_f hc ?_
        have h := sp_iconst (n := 0) (v := 0) (by decide +kernel) (by decide +kernel) h
        exact sp_iret (by decide +kernel) h
      · refine ite_t (Classical.not_not.mp hc) ?_
        have h := sp_onk (i := .aload_n 0) (by decide +kernel) rfl h
        have h := sp_getI (jj := 92) (ci := 4) (n := 8) (by decide +kernel) (by decide +kernel) (by decide +kernel) hS h
        have h := sp_onk (i := .aload_n 0) (by decide +kernel) rfl h
        have h := sp_getK (jj := 25) (ci := 4) (n := 2) (b := 31) (by decide +kernel) (by decide +kernel) (by decide +kernel) (by decide +kernel) (by decide) hS h
        have h := sp_iconst (n := 0) (v := 0) (by decide +kernel) (by decide +kernel) h
        obtain ⟨hi, h⟩ := sp_iald (by decide +kernel) h
        refine ⟨hi, ?_⟩
        rcases sp_icmp_ne (mi := 48) (pc := 36) (off := 7) (t := 43) (by decide +kernel) (by decide) rfl h with ⟨hc, h⟩ | ⟨hc, h⟩
        · refine ite_f hc ?_
          have h := sp_iconst (n := 0) (v := 0) (by decide +kernel) (by decide +kernel) h
          exact sp_iret (by decide +kernel) h
        · refine ite_t (Classical.not_not.mp hc) ?_
          have h := sp_iconst (n := 1) (v := 1) (by decide +kernel) (by decide +kernel) h
          have h := sp_goto (mi := 48) (pc := 40) (off := 4) (t := 44) (by decide +kernel) (by decide) rfl h
          exact sp_iret (by decide +kernel) h
    · refine ite_f hc ?_
      have h := sp_onk (i := .iload_n 1) (by decide +kernel) rfl h
      have h := sp_bipush (n := 7) (v := 7) (by decide +kernel) (by decide +kernel) h
      rcases sp_icmp_eq (mi := 48) (pc := 12) (off := 9) (t := 21) (by decide +kernel) (by decide) rfl h with ⟨hc, h⟩ | ⟨hc, h⟩
      · refine ite_t hc ?_
        have h := sp_onk (i := .iload_n 2) (by decide +kernel) rfl h
        have h := sp_iconst (n := 1) (v := 1) (by decide +kernel) (by decide +kernel) h
        rcases sp_icmp_ne (mi := 48) (pc := 23) (off := 20) (t := 43) (by decide +kernel) (by decide) rfl h with ⟨hc, h⟩ | ⟨hc, h⟩
        · refine ite_f hc ?_
          have h := sp_iconst (n := 0) (v := 0) (by decide +kernel) (by decide +kernel) h
          exact sp_iret (by decide +kernel) h
        · refine ite_t (Classical.not_not.mp hc) ?_
          have h := sp_onk (i := .aload_n 0) (by decide +kernel) rfl h
          have h := sp_getI (jj := 92) (ci := 4) (n := 8) (by decide +kernel) (by decide +kernel) (by decide +kernel) hS h
          have h := sp_onk (i := .aload_n 0) (by decide +kernel) rfl h
          have h := sp_getK (jj := 25) (ci := 4) (n := 2) (b := 31) (by decide +kernel) (by decide +kernel) (by decide +kernel) (by decide +kernel) (by decide) hS h
          have h := sp_iconst (n := 0) (v := 0) (by decide +kernel) (by decide +kernel) h
          obtain ⟨hi, h⟩ := sp_iald (by decide +kernel) h
          refine ⟨hi, ?_⟩
          rcases sp_icmp_ne (mi := 48) (pc := 36) (off := 7) (t := 43) (by decide +kernel) (by decide) rfl h with ⟨hc, h⟩ | ⟨hc, h⟩
          · refine ite_f hc ?_
            have h := sp_iconst (n := 0) (v := 0) (by decide +kernel) (by decide +kernel) h
            exact sp_iret (by decide +kernel) h
          · refine ite_t (Classical.not_not.mp hc) ?_
            have h := sp_iconst (n := 1) (v := 1) (by decide +kernel) (by decide +kernel) h
            have h := sp_goto (mi := 48) (pc := 40) (off := 4) (t := 44) (by decide +kernel) (by decide) rfl h
            exact sp_iret (by decide +kernel) h
      · refine ite_f hc ?_
        have h := sp_onk (i := .iload_n 1) (by decide +kernel) rfl h
        have h := sp_bipush (n := 12) (v := 12) (by decide +kernel) (by decide +kernel) h
        rcases sp_icmp_ne (mi := 48) (pc := 18) (off := 27) (t := 45) (by decide +kernel) (by decide) rfl h with ⟨hc, h⟩ | ⟨hc, h⟩
        · refine ite_f hc ?_
          have h := sp_onk (i := .iload_n 1) (by decide +kernel) rfl h
          have h := sp_iconst (n := 2) (v := 2) (by decide +kernel) (by decide +kernel) h
          rcases sp_icmp_eq (mi := 48) (pc := 47) (off := 5) (t := 52) (by decide +kernel) (by decide) rfl h with ⟨hc, h⟩ | ⟨hc, h⟩
          · refine ite_t hc ?_
            have h := sp_iconst (n := 2) (v := 2) (by decide +kernel) (by decide +kernel) h
            have h := sp_istore_n (j := 3) (ls' := [.ref 23, .int p1, .int p2, .int 2]) (by decide +kernel) (Nat.le_of_ble_eq_true rfl) rfl h
            exact h
          · refine ite_f hc ?_
            have h := sp_iconst (n := 0) (v := 0) (by decide +kernel) (by decide +kernel) h
            exact sp_iret (by decide +kernel) h
        · refine ite_t (Classical.not_not.mp hc) ?_
          have h := sp_onk (i := .iload_n 2) (by decide +kernel) rfl h
          have h := sp_iconst (n := 1) (v := 1) (by decide +kernel) (by decide +kernel) h
          rcases sp_icmp_ne (mi := 48) (pc := 23) (off := 20) (t := 43) (by decide +kernel) (by decide) rfl h with ⟨hc, h⟩ | ⟨hc, h⟩
          · refine ite_f hc ?_
            have h := sp_iconst (n := 0) (v := 0) (by decide +kernel) (by decide +kernel) h
            exact sp_iret (by decide +kernel) h
          · refine ite_t (Classical.not_not.mp hc) ?_
            have h := sp_onk (i := .aload_n 0) (by decide +kernel) rfl h
            have h := sp_getI (jj := 92) (ci := 4) (n := 8) (by decide +kernel) (by decide +kernel) (by decide +kernel) hS h
            have h := sp_onk (i := .aload_n 0) (by decide +kernel) rfl h
            have h := sp_getK (jj := 25) (ci := 4) (n := 2) (b := 31) (by decide +kernel) (by decide +kernel) (by decide +kernel) (by decide +kernel) (by decide) hS h
            have h := sp_iconst (n := 0) (v := 0) (by decide +kernel) (by decide +kernel) h
            obtain ⟨hi, h⟩ := sp_iald (by decide +kernel) h
            refine ⟨hi, ?_⟩
            rcases sp_icmp_ne (mi := 48) (pc := 36) (off := 7) (t := 43) (by decide +kernel) (by decide) rfl h with ⟨hc, h⟩ | ⟨hc, h⟩
            · refine ite_f hc ?_
              have h := sp_iconst (n := 0) (v := 0) (by decide +kernel) (by decide +kernel) h
              exact sp_iret (by decide +kernel) h
            · refine ite_t (Classical.not_not.mp hc) ?_
              have h := sp_iconst (n := 1) (v := 1) (by decide +kernel) (by decide +kernel) h
              have h := sp_goto (mi := 48) (pc := 40) (off := 4) (t := 44) (by decide +kernel) (by decide) rfl h
              exact sp_iret (by decide +kernel) h
set_option maxRecDepth 20000 in
set_option maxHeartbeats 2000000 in
theorem U48_54 {X : pm_X} {k : Nat} {w w' : pm_W} {r : Option Value} {i1 : Int32} {i2 : Int32} {i3 : Int32} (hS : SK w) (h : PS X (k + 1) 48 54 [.ref 23, .int i1, .int i2, .int i3] [] w r w') : if i2 ≤ i3 then (r = some (.int 0) ∧ w' = w) else (if 8 ≤ i3 then (r = some (.int 0) ∧ w' = w) else (aI w 31 i3 ∧ (if (gI w 23 8) = (aG w 31 i3) then (r = some (.int 1) ∧ w' = w) else (PS X k 48 54 [.ref 23, .int i1, .int i2, .int (i3 + 1)] [] w r w')))) := by
  have h := sp_one (i := .iload_n 3) (by decide +kernel) rfl h
  have h := sp_onk (i := .iload_n 2) (by decide +kernel) rfl h
  rcases sp_icmp_ge (mi := 48) (pc := 56) (off := 30) (t := 86) (by decide +kernel) (by decide) rfl h with ⟨hc, h⟩ | ⟨hc, h⟩
  · refine ite_t hc ?_
    have h := sp_iconst (n := 0) (v := 0) (by decide +kernel) (by decide +kernel) h
    exact sp_iret (by decide +kernel) h
  · refine ite_f hc ?_
    have h := sp_onk (i := .iload_n 3) (by decide +kernel) rfl h
    have h := sp_bipush (n := 8) (v := 8) (by decide +kernel) (by decide +kernel) h
    rcases sp_icmp_ge (mi := 48) (pc := 62) (off := 24) (t := 86) (by decide +kernel) (by decide) rfl h with ⟨hc, h⟩ | ⟨hc, h⟩
    · refine ite_t hc ?_
      have h := sp_iconst (n := 0) (v := 0) (by decide +kernel) (by decide +kernel) h
      exact sp_iret (by decide +kernel) h
    · refine ite_f hc ?_
      have h := sp_onk (i := .aload_n 0) (by decide +kernel) rfl h
      have h := sp_getI (jj := 92) (ci := 4) (n := 8) (by decide +kernel) (by decide +kernel) (by decide +kernel) hS h
      have h := sp_onk (i := .aload_n 0) (by decide +kernel) rfl h
      have h := sp_getK (jj := 25) (ci := 4) (n := 2) (b := 31) (by decide +kernel) (by decide +kernel) (by decide +kernel) (by decide +kernel) (by decide) hS h
      have h := sp_onk (i := .iload_n 3) (by decide +kernel) rfl h
      obtain ⟨hi, h⟩ := sp_iald (by decide +kernel) h
      refine ⟨hi, ?_⟩
      rcases sp_icmp_ne (mi := 48) (pc := 75) (off := 5) (t := 80) (by decide +kernel) (by decide) rfl h with ⟨hc, h⟩ | ⟨hc, h⟩
      · refine ite_f hc ?_
        have h := sp_iinc (j := 3) (n := 1) (v := 1) (ls' := [.ref 23, .int i1, .int i2, .int (i3 + 1)]) (by decide +kernel) rfl (by decide +kernel) rfl h
        have h := sp_goto (mi := 48) (pc := 83) (off := (-29)) (t := 54) (by decide +kernel) (by decide) rfl h
        exact h
      · refine ite_t (Classical.not_not.mp hc) ?_
        have h := sp_iconst (n := 1) (v := 1) (by decide +kernel) (by decide +kernel) h
        exact sp_iret (by decide +kernel) h
