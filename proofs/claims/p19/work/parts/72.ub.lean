set_option maxRecDepth 20000 in
set_option maxHeartbeats 2000000 in
theorem U199_0 {X : pm_X} {k : Nat} {w w' : pm_W} {r : Option Value} {p1 : Int32} {p2 : Int32} {p3 : Int32} (hS : SK w) (h : PS X (k + 1) 199 0 [.int p1, .int p2, .int p3] [] w r w') : if p1 < p2 then (r = some (.int 0) ∧ w' = w) else (if p3 < p1 then (r = some (.int 0) ∧ w' = w) else (r = some (.int 1) ∧ w' = w)) := by
  have h := sp_one (i := .iload_n 0) (by decide +kernel) rfl h
  have h := sp_onk (i := .iload_n 1) (by decide +kernel) rfl h
  rcases sp_icmp_lt (mi := 199) (pc := 2) (off := 12) (t := 14) (by decide +kernel) (by decide) rfl h with ⟨hc, h⟩ | ⟨hc, h⟩
  · refine ite_t hc ?_
    have h := sp_iconst (n := 0) (v := 0) (by decide +kernel) (by decide +kernel) h
    exact sp_iret (by decide +kernel) h
  · refine ite_f hc ?_
    have h := sp_onk (i := .iload_n 0) (by decide +kernel) rfl h
    have h := sp_onk (i := .iload_n 2) (by decide +kernel) rfl h
    rcases sp_icmp_gt (mi := 199) (pc := 7) (off := 7) (t := 14) (by decide +kernel) (by decide) rfl h with ⟨hc, h⟩ | ⟨hc, h⟩
    · refine ite_t hc ?_
      have h := sp_iconst (n := 0) (v := 0) (by decide +kernel) (by decide +kernel) h
      exact sp_iret (by decide +kernel) h
    · refine ite_f hc ?_
      have h := sp_iconst (n := 1) (v := 1) (by decide +kernel) (by decide +kernel) h
      have h := sp_goto (mi := 199) (pc := 11) (off := 4) (t := 15) (by decide +kernel) (by decide) rfl h
      exact sp_iret (by decide +kernel) h
set_option maxRecDepth 20000 in
set_option maxHeartbeats 2000000 in
theorem U200_0 {X : pm_X} {k : Nat} {w w' : pm_W} {r : Option Value} {p1 : Int32} {p2 : Int32} (hS : SK w) (h : PS X (k + 1) 200 0 [.ref 147, .int p1, .int p2] [] w r w') : aI w 148 p1 ∧ (∃ (r1 : Option Value) (w2 : pm_W), PS X k 199 0 [.int p2, .int 0, .int ((aG w 148 p1) - 1)] [] w r1 w2 ∧ (∀ x3 : Int32, r1 = some (.int x3) → SK w2 → (r = some (.int x3) ∧ w' = w2))) := by
  have h := sp_one (i := .iload_n 2) (by decide +kernel) rfl h
  have h := sp_iconst (n := 0) (v := 0) (by decide +kernel) (by decide +kernel) h
  have h := sp_onk (i := .aload_n 0) (by decide +kernel) rfl h
  have h := sp_getK (jj := 7) (ci := 12) (n := 0) (b := 148) (by decide +kernel) (by decide +kernel) (by decide +kernel) (by decide +kernel) (by decide) hS h
  have h := sp_onk (i := .iload_n 1) (by decide +kernel) rfl h
  obtain ⟨hi, h⟩ := sp_iald (by decide +kernel) h
  refine ⟨hi, ?_⟩
  have h := sp_iconst (n := 1) (v := 1) (by decide +kernel) (by decide +kernel) h
  have h := sp_onk (i := .isub) (by decide +kernel) rfl h
  obtain ⟨r1, w2, hc, h⟩ := sp_callS (jj := 119) (mj := 199) (n := 3) (args := [.int ((aG w 148 p1) - 1), .int 0, .int p2]) (ls' := [.int p2, .int 0, .int ((aG w 148 p1) - 1)]) (by decide +kernel) (by decide +kernel) (by decide +kernel) rfl rfl rfl h
  refine ⟨r1, w2, hc, fun x3 er hSw2 => ?_⟩
  subst er
  have h : PS X k 200 13 [.ref 147, .int p1, .int p2] [.int x3] w2 r w' := h
  exact sp_iret (by decide +kernel) h
set_option maxRecDepth 20000 in
set_option maxHeartbeats 2000000 in
theorem U201_0 {X : pm_X} {k : Nat} {w w' : pm_W} {r : Option Value} (hS : SK w) (h : PS X (k + 1) 201 0 [.ref 147, pm_dead, pm_dead] [] w r w') : ∃ (r1 : Option Value) (w2 : pm_W), PS X k 202 0 [.ref 147, .int (gI w 147 3)] [] w r1 w2 ∧ (∀ x3 : Int32, r1 = some (.int x3) → SK w2 → (if x3 = 10 then (PS X k 201 26 [.ref 147, pm_dead, pm_dead] [] w2 r w') else (∃ (r4 : Option Value) (w5 : pm_W), PS X k 202 0 [.ref 147, .int (gI w2 147 3)] [] w2 r4 w5 ∧ (∀ x6 : Int32, r4 = some (.int x6) → SK w5 → (if x6 = 32 then (PS X k 201 26 [.ref 147, pm_dead, pm_dead] [] w5 r w') else (∀ w7 : pm_W, w7 = sI w5 147 4 (gI w5 147 3) → (∃ (r8 : Option Value) (w9 : pm_W), PS X k 202 0 [.ref 147, .int (gI w7 147 3)] [] w7 r8 w9 ∧ (∀ x10 : Int32, r8 = some (.int x10) → SK w9 → (if 0 ≤ x10 then (∃ (r11 : Option Value) (w12 : pm_W), PS X k 203 0 [.int x10] [] w9 r11 w12 ∧ (∀ x13 : Int32, r11 = some (.int x13) → SK w12 → (if x13 = 0 then (∃ (r14 : Option Value) (w15 : pm_W), PS X k 206 0 [.int x10] [] w12 r14 w15 ∧ (∀ x16 : Int32, r14 = some (.int x16) → SK w15 → (if x16 = 0 then (∀ w17 : pm_W, w17 = sI w15 147 3 ((gI w15 147 3) + 1) → (if x10 = 59 then (∀ w19 : pm_W, w19 = sI w17 147 5 2 → (PS X k 201 308 [.ref 147, .int x10, pm_dead] [] w19 r w')) else (∀ w18 : pm_W, w18 = sI w17 147 5 4 → (PS X k 201 308 [.ref 147, .int x10, pm_dead] [] w18 r w')))) else (∀ w20 : pm_W, w20 = sI w15 147 6 0 → (PS X k 201 195 [.ref 147, .int x10, pm_dead] [] w20 r w'))))) else (PS X k 201 77 [.ref 147, .int x10, .int 0] [] w12 r w')))) else (∀ w21 : pm_W, w21 = sI w9 147 5 0 → (PS X k 201 308 [.ref 147, .int x10, pm_dead] [] w21 r w'))))))))))) := by
  have h := sp_one (i := .aload_n 0) (by decide +kernel) rfl h
  have h := sp_onk (i := .aload_n 0) (by decide +kernel) rfl h
  have h := sp_getI (jj := 83) (ci := 12) (n := 3) (by decide +kernel) (by decide +kernel) (by decide +kernel) hS h
  obtain ⟨r1, w2, hc, h⟩ := sp_callV (jj := 86) (mj := 202) (n := 1) (v := .ref 147) (args := [.int (gI w 147 3)]) (ls' := [.ref 147, .int (gI w 147 3)]) (by decide +kernel) (by decide +kernel) rfl rfl rfl h
  refine ⟨r1, w2, hc, fun x3 er hSw2 => ?_⟩
  subst er
  have h : PS X k 201 8 [.ref 147, pm_dead, pm_dead] [.int x3] w2 r w' := h
  have h := sp_bipush (n := 10) (v := 10) (by decide +kernel) (by decide +kernel) h
  rcases sp_icmp_eq (mi := 201) (pc := 10) (off := 16) (t := 26) (by decide +kernel) (by decide) rfl h with ⟨hc, h⟩ | ⟨hc, h⟩
  · refine ite_t hc ?_
    exact h
  · refine ite_f hc ?_
    have h := sp_onk (i := .aload_n 0) (by decide +kernel) rfl h
    have h := sp_onk (i := .aload_n 0) (by decide +kernel) rfl h
    have h := sp_getI (jj := 83) (ci := 12) (n := 3) (by decide +kernel) (by decide +kernel) (by decide +kernel) hSw2 h
    obtain ⟨r4, w5, hc, h⟩ := sp_callV (jj := 86) (mj := 202) (n := 1) (v := .ref 147) (args := [.int (gI w2 147 3)]) (ls' := [.ref 147, .int (gI w2 147 3)]) (by decide +kernel) (by decide +kernel) rfl rfl rfl h
    refine ⟨r4, w5, hc, fun x6 er hSw5 => ?_⟩
    subst er
    have h : PS X k 201 21 [.ref 147, pm_dead, pm_dead] [.int x6] w5 r w' := h
    have h := sp_bipush (n := 32) (v := 32) (by decide +kernel) (by decide +kernel) h
    rcases sp_icmp_ne (mi := 201) (pc := 23) (off := 16) (t := 39) (by decide +kernel) (by decide) rfl h with ⟨hc, h⟩ | ⟨hc, h⟩
    · refine ite_f hc ?_
      have h := sp_onk (i := .aload_n 0) (by decide +kernel) rfl h
      have h := sp_onk (i := .aload_n 0) (by decide +kernel) rfl h
      have h := sp_getI (jj := 83) (ci := 12) (n := 3) (by decide +kernel) (by decide +kernel) (by decide +kernel) hSw5 h
      have h := sp_putI (jj := 90) (ci := 12) (n := 4) (ty := .int) (by decide +kernel) (by decide +kernel) (by decide +kernel) hSw5 h
      intro w7 ew7
      rw [← ew7] at h
      have hSw7 : SK w7 := by rw [ew7]; exact SK_sI hSw5
      have h := sp_onk (i := .aload_n 0) (by decide +kernel) rfl h
      have h := sp_onk (i := .aload_n 0) (by decide +kernel) rfl h
      have h := sp_getI (jj := 83) (ci := 12) (n := 3) (by decide +kernel) (by decide +kernel) (by decide +kernel) hSw7 h
      obtain ⟨r8, w9, hc, h⟩ := sp_callV (jj := 86) (mj := 202) (n := 1) (v := .ref 147) (args := [.int (gI w7 147 3)]) (ls' := [.ref 147, .int (gI w7 147 3)]) (by decide +kernel) (by decide +kernel) rfl rfl rfl h
      refine ⟨r8, w9, hc, fun x10 er hSw9 => ?_⟩
      subst er
      have h : PS X k 201 55 [.ref 147, pm_dead, pm_dead] [.int x10] w9 r w' := h
      have h := sp_istore_n (j := 1) (ls' := [.ref 147, .int x10, pm_dead]) (by decide +kernel) (Nat.le_of_ble_eq_true rfl) rfl h
      have h := sp_onk (i := .iload_n 1) (by decide +kernel) rfl h
      rcases sp_if_ge (mi := 201) (pc := 57) (off := 11) (t := 68) (by decide +kernel) (by decide) rfl h with ⟨hc, h⟩ | ⟨hc, h⟩
      · refine ite_t hc ?_
        have h := sp_onk (i := .iload_n 1) (by decide +kernel) rfl h
        obtain ⟨r11, w12, hc, h⟩ := sp_callS (jj := 96) (mj := 203) (n := 1) (args := [.int x10]) (ls' := [.int x10]) (by decide +kernel) (by decide +kernel) (by decide +kernel) rfl rfl rfl h
        refine ⟨r11, w12, hc, fun x13 er hSw12 => ?_⟩
        subst er
        have h : PS X k 201 72 [.ref 147, .int x10, pm_dead] [.int x13] w12 r w' := h
        rcases sp_if_eq (mi := 201) (pc := 72) (off := 111) (t := 183) (by decide +kernel) (by decide) rfl h with ⟨hc, h⟩ | ⟨hc, h⟩
        · refine ite_t hc ?_
          have h := sp_onk (i := .iload_n 1) (by decide +kernel) rfl h
          obtain ⟨r14, w15, hc, h⟩ := sp_callS (jj := 106) (mj := 206) (n := 1) (args := [.int x10]) (ls' := [.int x10]) (by decide +kernel) (by decide +kernel) (by decide +kernel) rfl rfl rfl h
          refine ⟨r14, w15, hc, fun x16 er hSw15 => ?_⟩
          subst er
          have h : PS X k 201 187 [.ref 147, .int x10, pm_dead] [.int x16] w15 r w' := h
          rcases sp_if_eq (mi := 201) (pc := 187) (off := 96) (t := 283) (by decide +kernel) (by decide) rfl h with ⟨hc, h⟩ | ⟨hc, h⟩
          · refine ite_t hc ?_
            have h := sp_onk (i := .aload_n 0) (by decide +kernel) rfl h
            have h := sp_onk (i := .dup) (by decide +kernel) rfl h
            have h := sp_getI (jj := 83) (ci := 12) (n := 3) (by decide +kernel) (by decide +kernel) (by decide +kernel) hSw15 h
            have h := sp_iconst (n := 1) (v := 1) (by decide +kernel) (by decide +kernel) h
            have h := sp_onk (i := .iadd) (by decide +kernel) rfl h
            have h := sp_putI (jj := 83) (ci := 12) (n := 3) (ty := .int) (by decide +kernel) (by decide +kernel) (by decide +kernel) hSw15 h
            intro w17 ew17
            rw [← ew17] at h
            have hSw17 : SK w17 := by rw [ew17]; exact SK_sI hSw15
            have h := sp_onk (i := .aload_n 0) (by decide +kernel) rfl h
            have h := sp_onk (i := .iload_n 1) (by decide +kernel) rfl h
            have h := sp_bipush (n := 59) (v := 59) (by decide +kernel) (by decide +kernel) h
            rcases sp_icmp_ne (mi := 201) (pc := 297) (off := 7) (t := 304) (by decide +kernel) (by decide) rfl h with ⟨hc, h⟩ | ⟨hc, h⟩
            · refine ite_f hc ?_
              have h := sp_iconst (n := 4) (v := 4) (by decide +kernel) (by decide +kernel) h
              have h := sp_putI (jj := 93) (ci := 12) (n := 5) (ty := .int) (by decide +kernel) (by decide +kernel) (by decide +kernel) hSw17 h
              intro w18 ew18
              rw [← ew18] at h
              have hSw18 : SK w18 := by rw [ew18]; exact SK_sI hSw17
              exact h
            · refine ite_t (Classical.not_not.mp hc) ?_
              have h := sp_iconst (n := 2) (v := 2) (by decide +kernel) (by decide +kernel) h
              have h := sp_goto (mi := 201) (pc := 301) (off := 4) (t := 305) (by decide +kernel) (by decide) rfl h
              have h := sp_putI (jj := 93) (ci := 12) (n := 5) (ty := .int) (by decide +kernel) (by decide +kernel) (by decide +kernel) hSw17 h
              intro w19 ew19
              rw [← ew19] at h
              have hSw19 : SK w19 := by rw [ew19]; exact SK_sI hSw17
              exact h
          · refine ite_f hc ?_
            have h := sp_onk (i := .aload_n 0) (by decide +kernel) rfl h
            have h := sp_iconst (n := 0) (v := 0) (by decide +kernel) (by decide +kernel) h
            have h := sp_putI (jj := 109) (ci := 12) (n := 6) (ty := .int) (by decide +kernel) (by decide +kernel) (by decide +kernel) hSw15 h
            intro w20 ew20
            rw [← ew20] at h
            have hSw20 : SK w20 := by rw [ew20]; exact SK_sI hSw15
            exact h
        · refine ite_f hc ?_
          have h := sp_iconst (n := 0) (v := 0) (by decide +kernel) (by decide +kernel) h
          have h := sp_istore_n (j := 2) (ls' := [.ref 147, .int x10, .int 0]) (by decide +kernel) (Nat.le_of_ble_eq_true rfl) rfl h
          exact h
      · refine ite_f hc ?_
        have h := sp_onk (i := .aload_n 0) (by decide +kernel) rfl h
        have h := sp_iconst (n := 0) (v := 0) (by decide +kernel) (by decide +kernel) h
        have h := sp_putI (jj := 93) (ci := 12) (n := 5) (ty := .int) (by decide +kernel) (by decide +kernel) (by decide +kernel) hSw9 h
        intro w21 ew21
        rw [← ew21] at h
        have hSw21 : SK w21 := by rw [ew21]; exact SK_sI hSw9
        have h := sp_goto (mi := 201) (pc := 65) (off := 243) (t := 308) (by decide +kernel) (by decide) rfl h
        exact h
    · refine ite_t (Classical.not_not.mp hc) ?_
      exact h
set_option maxRecDepth 20000 in
set_option maxHeartbeats 2000000 in
theorem U201_26 {X : pm_X} {k : Nat} {w w' : pm_W} {r : Option Value} (hS : SK w) (h : PS X (k + 1) 201 26 [.ref 147, pm_dead, pm_dead] [] w r w') : ∀ w1 : pm_W, w1 = sI w 147 3 ((gI w 147 3) + 1) → (PS X k 201 0 [.ref 147, pm_dead, pm_dead] [] w1 r w') := by
  have h := sp_one (i := .aload_n 0) (by decide +kernel) rfl h
  have h := sp_onk (i := .dup) (by decide +kernel) rfl h
  have h := sp_getI (jj := 83) (ci := 12) (n := 3) (by decide +kernel) (by decide +kernel) (by decide +kernel) hS h
  have h := sp_iconst (n := 1) (v := 1) (by decide +kernel) (by decide +kernel) h
  have h := sp_onk (i := .iadd) (by decide +kernel) rfl h
  have h := sp_putI (jj := 83) (ci := 12) (n := 3) (ty := .int) (by decide +kernel) (by decide +kernel) (by decide +kernel) hS h
  intro w1 ew1
  rw [← ew1] at h
  have hSw1 : SK w1 := by rw [ew1]; exact SK_sI hS
  have h := sp_goto (mi := 201) (pc := 36) (off := (-36)) (t := 0) (by decide +kernel) (by decide) rfl h
  exact h
set_option maxRecDepth 20000 in
set_option maxHeartbeats 2000000 in
theorem U201_77 {X : pm_X} {k : Nat} {w w' : pm_W} {r : Option Value} {i1 : Int32} {i2 : Int32} (hS : SK w) (h : PS X (k + 1) 201 77 [.ref 147, .int i1, .int i2] [] w r w') : ∃ (r1 : Option Value) (w2 : pm_W), PS X k 202 0 [.ref 147, .int (gI w 147 3)] [] w r1 w2 ∧ (∀ x3 : Int32, r1 = some (.int x3) → SK w2 → (∃ (r4 : Option Value) (w5 : pm_W), PS X k 203 0 [.int x3] [] w2 r4 w5 ∧ (∀ x6 : Int32, r4 = some (.int x6) → SK w5 → (if x6 = 0 then (if ((gI w5 147 3) - (gI w5 147 4)) ≤ 6 then (∃ (r7 : Option Value) (w8 : pm_W), PS X k 204 0 [.int i2] [] w5 r7 w8 ∧ (∀ x9 : Int32, r7 = some (.int x9) → SK w8 → (∀ w10 : pm_W, w10 = sI w8 147 7 x9 → (if (gI w10 147 7) = 99 then (∀ w12 : pm_W, w12 = sI w10 147 5 4 → (PS X k 201 308 [.ref 147, .int i1, .int i2] [] w12 r w')) else (∀ w11 : pm_W, w11 = sI w10 147 5 3 → (PS X k 201 308 [.ref 147, .int i1, .int i2] [] w11 r w')))))) else (∀ w13 : pm_W, w13 = sI w5 147 7 99 → (if (gI w13 147 7) = 99 then (∀ w15 : pm_W, w15 = sI w13 147 5 4 → (PS X k 201 308 [.ref 147, .int i1, .int i2] [] w15 r w')) else (∀ w14 : pm_W, w14 = sI w13 147 5 3 → (PS X k 201 308 [.ref 147, .int i1, .int i2] [] w14 r w'))))) else (if 6 ≤ ((gI w5 147 3) - (gI w5 147 4)) then (PS X k 201 122 [.ref 147, .int i1, .int i2] [] w5 r w') else (∃ (r16 : Option Value) (w17 : pm_W), PS X k 202 0 [.ref 147, .int (gI w5 147 3)] [] w5 r16 w17 ∧ (∀ x18 : Int32, r16 = some (.int x18) → SK w17 → (PS X k 201 122 [.ref 147, .int i1, .int (((32 * i2) + x18) - 96)] [] w17 r w')))))))) := by
  have h := sp_one (i := .aload_n 0) (by decide +kernel) rfl h
  have h := sp_onk (i := .aload_n 0) (by decide +kernel) rfl h
  have h := sp_getI (jj := 83) (ci := 12) (n := 3) (by decide +kernel) (by decide +kernel) (by decide +kernel) hS h
  obtain ⟨r1, w2, hc, h⟩ := sp_callV (jj := 86) (mj := 202) (n := 1) (v := .ref 147) (args := [.int (gI w 147 3)]) (ls' := [.ref 147, .int (gI w 147 3)]) (by decide +kernel) (by decide +kernel) rfl rfl rfl h
  refine ⟨r1, w2, hc, fun x3 er hSw2 => ?_⟩
  subst er
  have h : PS X k 201 85 [.ref 147, .int i1, .int i2] [.int x3] w2 r w' := h
  obtain ⟨r4, w5, hc, h⟩ := sp_callS (jj := 96) (mj := 203) (n := 1) (args := [.int x3]) (ls' := [.int x3]) (by decide +kernel) (by decide +kernel) (by decide +kernel) rfl rfl rfl h
  refine ⟨r4, w5, hc, fun x6 er hSw5 => ?_⟩
  subst er
  have h : PS X k 201 88 [.ref 147, .int i1, .int i2] [.int x6] w5 r w' := h
  rcases sp_if_eq (mi := 201) (pc := 88) (off := 47) (t := 135) (by decide +kernel) (by decide) rfl h with ⟨hc, h⟩ | ⟨hc, h⟩
  · refine ite_t hc ?_
    have h := sp_onk (i := .aload_n 0) (by decide +kernel) rfl h
    have h := sp_onk (i := .aload_n 0) (by decide +kernel) rfl h
    have h := sp_getI (jj := 83) (ci := 12) (n := 3) (by decide +kernel) (by decide +kernel) (by decide +kernel) hSw5 h
    have h := sp_onk (i := .aload_n 0) (by decide +kernel) rfl h
    have h := sp_getI (jj := 90) (ci := 12) (n := 4) (by decide +kernel) (by decide +kernel) (by decide +kernel) hSw5 h
    have h := sp_onk (i := .isub) (by decide +kernel) rfl h
    have h := sp_bipush (n := 6) (v := 6) (by decide +kernel) (by decide +kernel) h
    rcases sp_icmp_le (mi := 201) (pc := 147) (off := 8) (t := 155) (by decide +kernel) (by decide) rfl h with ⟨hc, h⟩ | ⟨hc, h⟩
    · refine ite_t hc ?_
      have h := sp_onk (i := .iload_n 2) (by decide +kernel) rfl h
      obtain ⟨r7, w8, hc, h⟩ := sp_callS (jj := 100) (mj := 204) (n := 1) (args := [.int i2]) (ls' := [.int i2]) (by decide +kernel) (by decide +kernel) (by decide +kernel) rfl rfl rfl h
      refine ⟨r7, w8, hc, fun x9 er hSw8 => ?_⟩
      subst er
      have h : PS X k 201 159 [.ref 147, .int i1, .int i2] [.int x9, .ref 147] w8 r w' := h
      have h := sp_putI (jj := 103) (ci := 12) (n := 7) (ty := .int) (by decide +kernel) (by decide +kernel) (by decide +kernel) hSw8 h
      intro w10 ew10
      rw [← ew10] at h
      have hSw10 : SK w10 := by rw [ew10]; exact SK_sI hSw8
      have h := sp_onk (i := .aload_n 0) (by decide +kernel) rfl h
      have h := sp_onk (i := .aload_n 0) (by decide +kernel) rfl h
      have h := sp_getI (jj := 103) (ci := 12) (n := 7) (by decide +kernel) (by decide +kernel) (by decide +kernel) hSw10 h
      have h := sp_bipush (n := 99) (v := 99) (by decide +kernel) (by decide +kernel) h
      rcases sp_icmp_ne (mi := 201) (pc := 169) (off := 7) (t := 176) (by decide +kernel) (by decide) rfl h with ⟨hc, h⟩ | ⟨hc, h⟩
      · refine ite_f hc ?_
        have h := sp_iconst (n := 3) (v := 3) (by decide +kernel) (by decide +kernel) h
        have h := sp_putI (jj := 93) (ci := 12) (n := 5) (ty := .int) (by decide +kernel) (by decide +kernel) (by decide +kernel) hSw10 h
        intro w11 ew11
        rw [← ew11] at h
        have hSw11 : SK w11 := by rw [ew11]; exact SK_sI hSw10
        have h := sp_goto (mi := 201) (pc := 180) (off := 128) (t := 308) (by decide +kernel) (by decide) rfl h
        exact h
      · refine ite_t (Classical.not_not.mp hc) ?_
        have h := sp_iconst (n := 4) (v := 4) (by decide +kernel) (by decide +kernel) h
        have h := sp_goto (mi := 201) (pc := 173) (off := 4) (t := 177) (by decide +kernel) (by decide) rfl h
        have h := sp_putI (jj := 93) (ci := 12) (n := 5) (ty := .int) (by decide +kernel) (by decide +kernel) (by decide +kernel) hSw10 h
        intro w12 ew12
        rw [← ew12] at h
        have hSw12 : SK w12 := by rw [ew12]; exact SK_sI hSw10
        have h := sp_goto (mi := 201) (pc := 180) (off := 128) (t := 308) (by decide +kernel) (by decide) rfl h
        exact h
    · refine ite_f hc ?_
      have h := sp_bipush (n := 99) (v := 99) (by decide +kernel) (by decide +kernel) h
      have h := sp_goto (mi := 201) (pc := 152) (off := 7) (t := 159) (by decide +kernel) (by decide) rfl h
      have h := sp_putI (jj := 103) (ci := 12) (n := 7) (ty := .int) (by decide +kernel) (by decide +kernel) (by decide +kernel) hSw5 h
      intro w13 ew13
      rw [← ew13] at h
      have hSw13 : SK w13 := by rw [ew13]; exact SK_sI hSw5
      have h := sp_onk (i := .aload_n 0) (by decide +kernel) rfl h
      have h := sp_onk (i := .aload_n 0) (by decide +kernel) rfl h
      have h := sp_getI (jj := 103) (ci := 12) (n := 7) (by decide +kernel) (by decide +kernel) (by decide +kernel) hSw13 h
      have h := sp_bipush (n := 99) (v := 99) (by decide +kernel) (by decide +kernel) h
      rcases sp_icmp_ne (mi := 201) (pc := 169) (off := 7) (t := 176) (by decide +kernel) (by decide) rfl h with ⟨hc, h⟩ | ⟨hc, h⟩
      · refine ite_f hc ?_
        have h := sp_iconst (n := 3) (v := 3) (by decide +kernel) (by decide +kernel) h
        have h := sp_putI (jj := 93) (ci := 12) (n := 5) (ty := .int) (by decide +kernel) (by decide +kernel) (by decide +kernel) hSw13 h
        intro w14 ew14
        rw [← ew14] at h
        have hSw14 : SK w14 := by rw [ew14]; exact SK_sI hSw13
        have h := sp_goto (mi := 201) (pc := 180) (off := 128) (t := 308) (by decide +kernel) (by decide) rfl h
        exact h
      · refine ite_t (Classical.not_not.mp hc) ?_
        have h := sp_iconst (n := 4) (v := 4) (by decide +kernel) (by decide +kernel) h
        have h := sp_goto (mi := 201) (pc := 173) (off := 4) (t := 177) (by decide +kernel) (by decide) rfl h
        have h := sp_putI (jj := 93) (ci := 12) (n := 5) (ty := .int) (by decide +kernel) (by decide +kernel) (by decide +kernel) hSw13 h
        intro w15 ew15
        rw [← ew15] at h
        have hSw15 : SK w15 := by rw [ew15]; exact SK_sI hSw13
        have h := sp_goto (mi := 201) (pc := 180) (off := 128) (t := 308) (by decide +kernel) (by decide) rfl h
        exact h
  · refine ite_f hc ?_
    have h := sp_onk (i := .aload_n 0) (by decide +kernel) rfl h
    have h := sp_getI (jj := 83) (ci := 12) (n := 3) (by decide +kernel) (by decide +kernel) (by decide +kernel) hSw5 h
    have h := sp_onk (i := .aload_n 0) (by decide +kernel) rfl h
    have h := sp_getI (jj := 90) (ci := 12) (n := 4) (by decide +kernel) (by decide +kernel) (by decide +kernel) hSw5 h
    have h := sp_onk (i := .isub) (by decide +kernel) rfl h
    have h := sp_bipush (n := 6) (v := 6) (by decide +kernel) (by decide +kernel) h
    rcases sp_icmp_ge (mi := 201) (pc := 102) (off := 20) (t := 122) (by decide +kernel) (by decide) rfl h with ⟨hc, h⟩ | ⟨hc, h⟩
    · refine ite_t hc ?_
      exact h
    · refine ite_f hc ?_
      have h := sp_bipush (n := 32) (v := 32) (by decide +kernel) (by decide +kernel) h
      have h := sp_onk (i := .iload_n 2) (by decide +kernel) rfl h
      have h := sp_onk (i := .imul) (by decide +kernel) rfl h
      have h := sp_onk (i := .aload_n 0) (by decide +kernel) rfl h
      have h := sp_onk (i := .aload_n 0) (by decide +kernel) rfl h
      have h := sp_getI (jj := 83) (ci := 12) (n := 3) (by decide +kernel) (by decide +kernel) (by decide +kernel) hSw5 h
      obtain ⟨r16, w17, hc, h⟩ := sp_callV (jj := 86) (mj := 202) (n := 1) (v := .ref 147) (args := [.int (gI w5 147 3)]) (ls' := [.ref 147, .int (gI w5 147 3)]) (by decide +kernel) (by decide +kernel) rfl rfl rfl h
      refine ⟨r16, w17, hc, fun x18 er hSw17 => ?_⟩
      subst er
      have h : PS X k 201 117 [.ref 147, .int i1, .int i2] [.int x18, .int (32 * i2)] w17 r w' := h
      have h := sp_onk (i := .iadd) (by decide +kernel) rfl h
      have h := sp_bipush (n := 96) (v := 96) (by decide +kernel) (by decide +kernel) h
      have h := sp_onk (i := .isub) (by decide +kernel) rfl h
      have h := sp_istore_n (j := 2) (ls' := [.ref 147, .int i1, .int (((32 * i2) + x18) - 96)]) (by decide +kernel) (Nat.le_of_ble_eq_true rfl) rfl h
      exact h
set_option maxRecDepth 20000 in
set_option maxHeartbeats 2000000 in
theorem U201_122 {X : pm_X} {k : Nat} {w w' : pm_W} {r : Option Value} {i1 : Int32} {i2 : Int32} (hS : SK w) (h : PS X (k + 1) 201 122 [.ref 147, .int i1, .int i2] [] w r w') : ∀ w1 : pm_W, w1 = sI w 147 3 ((gI w 147 3) + 1) → (PS X k 201 77 [.ref 147, .int i1, .int i2] [] w1 r w') := by
  have h := sp_one (i := .aload_n 0) (by decide +kernel) rfl h
  have h := sp_onk (i := .dup) (by decide +kernel) rfl h
  have h := sp_getI (jj := 83) (ci := 12) (n := 3) (by decide +kernel) (by decide +kernel) (by decide +kernel) hS h
  have h := sp_iconst (n := 1) (v := 1) (by decide +kernel) (by decide +kernel) h
  have h := sp_onk (i := .iadd) (by decide +kernel) rfl h
  have h := sp_putI (jj := 83) (ci := 12) (n := 3) (ty := .int) (by decide +kernel) (by decide +kernel) (by decide +kernel) hS h
  intro w1 ew1
  rw [← ew1] at h
  have hSw1 : SK w1 := by rw [ew1]; exact SK_sI hS
  have h := sp_goto (mi := 201) (pc := 132) (off := (-55)) (t := 77) (by decide +kernel) (by decide) rfl h
  exact h
set_option maxRecDepth 20000 in
set_option maxHeartbeats 2000000 in
theorem U201_195 {X : pm_X} {k : Nat} {w w' : pm_W} {r : Option Value} {i1 : Int32} (hS : SK w) (h : PS X (k + 1) 201 195 [.ref 147, .int i1, pm_dead] [] w r w') : ∃ (r1 : Option Value) (w2 : pm_W), PS X k 202 0 [.ref 147, .int (gI w 147 3)] [] w r1 w2 ∧ (∀ x3 : Int32, r1 = some (.int x3) → SK w2 → (∃ (r4 : Option Value) (w5 : pm_W), PS X k 206 0 [.int x3] [] w2 r4 w5 ∧ (∀ x6 : Int32, r4 = some (.int x6) → SK w5 → (if x6 = 0 then (if ((gI w5 147 3) - (gI w5 147 4)) ≤ 2 then (∀ w7 : pm_W, w7 = sI w5 147 5 1 → (PS X k 201 308 [.ref 147, .int i1, pm_dead] [] w7 r w')) else (∀ w8 : pm_W, w8 = sI w5 147 5 4 → (PS X k 201 308 [.ref 147, .int i1, pm_dead] [] w8 r w'))) else (if 2 ≤ ((gI w5 147 3) - (gI w5 147 4)) then (PS X k 201 245 [.ref 147, .int i1, pm_dead] [] w5 r w') else (∃ (r9 : Option Value) (w10 : pm_W), PS X k 202 0 [.ref 147, .int (gI w5 147 3)] [] w5 r9 w10 ∧ (∀ x11 : Int32, r9 = some (.int x11) → SK w10 → (∀ w12 : pm_W, w12 = sI w10 147 6 (((10 * (gI w5 147 6)) + x11) - 48) → (PS X k 201 245 [.ref 147, .int i1, pm_dead] [] w12 r w'))))))))) := by
  have h := sp_one (i := .aload_n 0) (by decide +kernel) rfl h
  have h := sp_onk (i := .aload_n 0) (by decide +kernel) rfl h
  have h := sp_getI (jj := 83) (ci := 12) (n := 3) (by decide +kernel) (by decide +kernel) (by decide +kernel) hS h
  obtain ⟨r1, w2, hc, h⟩ := sp_callV (jj := 86) (mj := 202) (n := 1) (v := .ref 147) (args := [.int (gI w 147 3)]) (ls' := [.ref 147, .int (gI w 147 3)]) (by decide +kernel) (by decide +kernel) rfl rfl rfl h
  refine ⟨r1, w2, hc, fun x3 er hSw2 => ?_⟩
  subst er
  have h : PS X k 201 203 [.ref 147, .int i1, pm_dead] [.int x3] w2 r w' := h
  obtain ⟨r4, w5, hc, h⟩ := sp_callS (jj := 106) (mj := 206) (n := 1) (args := [.int x3]) (ls' := [.int x3]) (by decide +kernel) (by decide +kernel) (by decide +kernel) rfl rfl rfl h
  refine ⟨r4, w5, hc, fun x6 er hSw5 => ?_⟩
  subst er
  have h : PS X k 201 206 [.ref 147, .int i1, pm_dead] [.int x6] w5 r w' := h
  rcases sp_if_eq (mi := 201) (pc := 206) (off := 52) (t := 258) (by decide +kernel) (by decide) rfl h with ⟨hc, h⟩ | ⟨hc, h⟩
  · refine ite_t hc ?_
    have h := sp_onk (i := .aload_n 0) (by decide +kernel) rfl h
    have h := sp_onk (i := .aload_n 0) (by decide +kernel) rfl h
    have h := sp_getI (jj := 83) (ci := 12) (n := 3) (by decide +kernel) (by decide +kernel) (by decide +kernel) hSw5 h
    have h := sp_onk (i := .aload_n 0) (by decide +kernel) rfl h
    have h := sp_getI (jj := 90) (ci := 12) (n := 4) (by decide +kernel) (by decide +kernel) (by decide +kernel) hSw5 h
    have h := sp_onk (i := .isub) (by decide +kernel) rfl h
    have h := sp_iconst (n := 2) (v := 2) (by decide +kernel) (by decide +kernel) h
    rcases sp_icmp_le (mi := 201) (pc := 269) (off := 7) (t := 276) (by decide +kernel) (by decide) rfl h with ⟨hc, h⟩ | ⟨hc, h⟩
    · refine ite_t hc ?_
      have h := sp_iconst (n := 1) (v := 1) (by decide +kernel) (by decide +kernel) h
      have h := sp_putI (jj := 93) (ci := 12) (n := 5) (ty := .int) (by decide +kernel) (by decide +kernel) (by decide +kernel) hSw5 h
      intro w7 ew7
      rw [← ew7] at h
      have hSw7 : SK w7 := by rw [ew7]; exact SK_sI hSw5
      have h := sp_goto (mi := 201) (pc := 280) (off := 28) (t := 308) (by decide +kernel) (by decide) rfl h
      exact h
    · refine ite_f hc ?_
      have h := sp_iconst (n := 4) (v := 4) (by decide +kernel) (by decide +kernel) h
      have h := sp_goto (mi := 201) (pc := 273) (off := 4) (t := 277) (by decide +kernel) (by decide) rfl h
      have h := sp_putI (jj := 93) (ci := 12) (n := 5) (ty := .int) (by decide +kernel) (by decide +kernel) (by decide +kernel) hSw5 h
      intro w8 ew8
      rw [← ew8] at h
      have hSw8 : SK w8 := by rw [ew8]; exact SK_sI hSw5
      have h := sp_goto (mi := 201) (pc := 280) (off := 28) (t := 308) (by decide +kernel) (by decide) rfl h
      exact h
  · refine ite_f hc ?_
    have h := sp_onk (i := .aload_n 0) (by decide +kernel) rfl h
    have h := sp_getI (jj := 83) (ci := 12) (n := 3) (by decide +kernel) (by decide +kernel) (by decide +kernel) hSw5 h
    have h := sp_onk (i := .aload_n 0) (by decide +kernel) rfl h
    have h := sp_getI (jj := 90) (ci := 12) (n := 4) (by decide +kernel) (by decide +kernel) (by decide +kernel) hSw5 h
    have h := sp_onk (i := .isub) (by decide +kernel) rfl h
    have h := sp_iconst (n := 2) (v := 2) (by decide +kernel) (by decide +kernel) h
    rcases sp_icmp_ge (mi := 201) (pc := 219) (off := 26) (t := 245) (by decide +kernel) (by decide) rfl h with ⟨hc, h⟩ | ⟨hc, h⟩
    · refine ite_t hc ?_
      exact h
    · refine ite_f hc ?_
      have h := sp_onk (i := .aload_n 0) (by decide +kernel) rfl h
      have h := sp_bipush (n := 10) (v := 10) (by decide +kernel) (by decide +kernel) h
      have h := sp_onk (i := .aload_n 0) (by decide +kernel) rfl h
      have h := sp_getI (jj := 109) (ci := 12) (n := 6) (by decide +kernel) (by decide +kernel) (by decide +kernel) hSw5 h
      have h := sp_onk (i := .imul) (by decide +kernel) rfl h
      have h := sp_onk (i := .aload_n 0) (by decide +kernel) rfl h
      have h := sp_onk (i := .aload_n 0) (by decide +kernel) rfl h
      have h := sp_getI (jj := 83) (ci := 12) (n := 3) (by decide +kernel) (by decide +kernel) (by decide +kernel) hSw5 h
      obtain ⟨r9, w10, hc, h⟩ := sp_callV (jj := 86) (mj := 202) (n := 1) (v := .ref 147) (args := [.int (gI w5 147 3)]) (ls' := [.ref 147, .int (gI w5 147 3)]) (by decide +kernel) (by decide +kernel) rfl rfl rfl h
      refine ⟨r9, w10, hc, fun x11 er hSw10 => ?_⟩
      subst er
      have h : PS X k 201 238 [.ref 147, .int i1, pm_dead] [.int x11, .int (10 * (gI w5 147 6)), .ref 147] w10 r w' := h
      have h := sp_onk (i := .iadd) (by decide +kernel) rfl h
      have h := sp_bipush (n := 48) (v := 48) (by decide +kernel) (by decide +kernel) h
      have h := sp_onk (i := .isub) (by decide +kernel) rfl h
      have h := sp_putI (jj := 109) (ci := 12) (n := 6) (ty := .int) (by decide +kernel) (by decide +kernel) (by decide +kernel) hSw10 h
      intro w12 ew12
      rw [← ew12] at h
      have hSw12 : SK w12 := by rw [ew12]; exact SK_sI hSw10
      exact h
set_option maxRecDepth 20000 in
set_option maxHeartbeats 2000000 in
theorem U201_245 {X : pm_X} {k : Nat} {w w' : pm_W} {r : Option Value} {i1 : Int32} (hS : SK w) (h : PS X (k + 1) 201 245 [.ref 147, .int i1, pm_dead] [] w r w') : ∀ w1 : pm_W, w1 = sI w 147 3 ((gI w 147 3) + 1) → (PS X k 201 195 [.ref 147, .int i1, pm_dead] [] w1 r w') := by
  have h := sp_one (i := .aload_n 0) (by decide +kernel) rfl h
  have h := sp_onk (i := .dup) (by decide +kernel) rfl h
  have h := sp_getI (jj := 83) (ci := 12) (n := 3) (by decide +kernel) (by decide +kernel) (by decide +kernel) hS h
  have h := sp_iconst (n := 1) (v := 1) (by decide +kernel) (by decide +kernel) h
  have h := sp_onk (i := .iadd) (by decide +kernel) rfl h
  have h := sp_putI (jj := 83) (ci := 12) (n := 3) (ty := .int) (by decide +kernel) (by decide +kernel) (by decide +kernel) hS h
  intro w1 ew1
  rw [← ew1] at h
  have hSw1 : SK w1 := by rw [ew1]; exact SK_sI hS
  have h := sp_goto (mi := 201) (pc := 255) (off := (-60)) (t := 195) (by decide +kernel) (by decide) rfl h
  exact h
set_option maxRecDepth 20000 in
set_option maxHeartbeats 2000000 in
theorem U201_308 {X : pm_X} {k : Nat} {w w' : pm_W} {r : Option Value} {i1 : Int32} {u2 : Value} (hS : SK w) (h : PS X (k + 1) 201 308 [.ref 147, .int i1, u2] [] w r w') : r = none ∧ w' = w := by
  exact sp_vret (by decide +kernel) h
set_option maxRecDepth 20000 in
set_option maxHeartbeats 2000000 in
theorem U202_0 {X : pm_X} {k : Nat} {w w' : pm_W} {r : Option Value} {p1 : Int32} (hS : SK w) (h : PS X (k + 1) 202 0 [.ref 147, .int p1] [] w r w') : if (gI w 147 2) ≤ p1 then (r = some (.int (-1)) ∧ w' = w) else (aI w 148 (10 + p1) ∧ (r = some (.int (aG w 148 (10 + p1))) ∧ w' = w)) := by
  have h := sp_one (i := .iload_n 1) (by decide +kernel) rfl h
  have h := sp_onk (i := .aload_n 0) (by decide +kernel) rfl h
  have h := sp_getI (jj := 75) (ci := 12) (n := 2) (by decide +kernel) (by decide +kernel) (by decide +kernel) hS h
  rcases sp_icmp_ge (mi := 202) (pc := 5) (off := 15) (t := 20) (by decide +kernel) (by decide) rfl h with ⟨hc, h⟩ | ⟨hc, h⟩
  · refine ite_t hc ?_
    have h := sp_iconst (n := (-1)) (v := (-1)) (by decide +kernel) (by decide +kernel) h
    exact sp_iret (by decide +kernel) h
  · refine ite_f hc ?_
    have h := sp_onk (i := .aload_n 0) (by decide +kernel) rfl h
    have h := sp_getK (jj := 7) (ci := 12) (n := 0) (b := 148) (by decide +kernel) (by decide +kernel) (by decide +kernel) (by decide +kernel) (by decide) hS h
    have h := sp_bipush (n := 10) (v := 10) (by decide +kernel) (by decide +kernel) h
    have h := sp_onk (i := .iload_n 1) (by decide +kernel) rfl h
    have h := sp_onk (i := .iadd) (by decide +kernel) rfl h
    obtain ⟨hi, h⟩ := sp_iald (by decide +kernel) h
    refine ⟨hi, ?_⟩
    have h := sp_goto (mi := 202) (pc := 17) (off := 4) (t := 21) (by decide +kernel) (by decide) rfl h
    exact sp_iret (by decide +kernel) h
set_option maxRecDepth 20000 in
set_option maxHeartbeats 2000000 in
theorem U203_0 {X : pm_X} {k : Nat} {w w' : pm_W} {r : Option Value} {p1 : Int32} (hS : SK w) (h : PS X (k + 1) 203 0 [.int p1] [] w r w') : if p1 < 97 then (r = some (.int 0) ∧ w' = w) else (if 122 < p1 then (r = some (.int 0) ∧ w' = w) else (r = some (.int 1) ∧ w' = w)) := by
  have h := sp_one (i := .iload_n 0) (by decide +kernel) rfl h
  have h := sp_bipush (n := 97) (v := 97) (by decide +kernel) (by decide +kernel) h
  rcases sp_icmp_lt (mi := 203) (pc := 3) (off := 13) (t := 16) (by decide +kernel) (by decide) rfl h with ⟨hc, h⟩ | ⟨hc, h⟩
  · refine ite_t hc ?_
    have h := sp_iconst (n := 0) (v := 0) (by decide +kernel) (by decide +kernel) h
    exact sp_iret (by decide +kernel) h
  · refine ite_f hc ?_
    have h := sp_onk (i := .iload_n 0) (by decide +kernel) rfl h
    have h := sp_bipush (n := 122) (v := 122) (by decide +kernel) (by decide +kernel) h
    rcases sp_icmp_gt (mi := 203) (pc := 9) (off := 7) (t := 16) (by decide +kernel) (by decide) rfl h with ⟨hc, h⟩ | ⟨hc, h⟩
    · refine ite_t hc ?_
      have h := sp_iconst (n := 0) (v := 0) (by decide +kernel) (by decide +kernel) h
      exact sp_iret (by decide +kernel) h
    · refine ite_f hc ?_
      have h := sp_iconst (n := 1) (v := 1) (by decide +kernel) (by decide +kernel) h
      have h := sp_goto (mi := 203) (pc := 13) (off := 4) (t := 17) (by decide +kernel) (by decide) rfl h
      exact sp_iret (by decide +kernel) h
set_option maxRecDepth 20000 in
set_option maxHeartbeats 2000000 in
theorem U204_0 {X : pm_X} {k : Nat} {w w' : pm_W} {r : Option Value} {p1 : Int32} (hS : SK w) (h : PS X (k + 1) 204 0 [.int p1] [] w r w') : ∃ (r1 : Option Value) (w2 : pm_W), PS X k 205 0 [.int 16, .int 5, .int 15] [] w r1 w2 ∧ (∀ x3 : Int32, r1 = some (.int x3) → SK w2 → (∃ (r4 : Option Value) (w5 : pm_W), PS X k 205 0 [.int 16, .int 12, .int 5] [] w2 r4 w5 ∧ (∀ x6 : Int32, r4 = some (.int x6) → SK w5 → (if p1 = ((x3 * 32768) + x6) then (r = some (.int 1) ∧ w' = w5) else (∃ (r7 : Option Value) (w8 : pm_W), PS X k 205 0 [.int 23, .int 15, .int 18] [] w5 r7 w8 ∧ (∀ x9 : Int32, r7 = some (.int x9) → SK w8 → (if p1 = ((x9 * 32) + 4) then (r = some (.int 2) ∧ w' = w8) else (∃ (r10 : Option Value) (w11 : pm_W), PS X k 205 0 [.int 1, .int 12, .int 12] [] w8 r10 w11 ∧ (∀ x12 : Int32, r10 = some (.int x12) → SK w11 → (if p1 = x12 then (r = some (.int 3) ∧ w' = w11) else (∃ (r13 : Option Value) (w14 : pm_W), PS X k 205 0 [.int 6, .int 5, .int 5] [] w11 r13 w14 ∧ (∀ x15 : Int32, r13 = some (.int x15) → SK w14 → (if p1 = x15 then (r = some (.int 4) ∧ w' = w14) else (∃ (r16 : Option Value) (w17 : pm_W), PS X k 205 0 [.int 18, .int 9, .int 19] [] w14 r16 w17 ∧ (∀ x18 : Int32, r16 = some (.int x18) → SK w17 → (if p1 = ((x18 * 32) + 11) then (r = some (.int 5) ∧ w' = w17) else (∃ (r19 : Option Value) (w20 : pm_W), PS X k 205 0 [.int 19, .int 12, .int 1] [] w17 r19 w20 ∧ (∀ x21 : Int32, r19 = some (.int x21) → SK w20 → (if p1 = (((x21 * 1024) + 96) + 11) then (r = some (.int 6) ∧ w' = w20) else (∃ (r22 : Option Value) (w23 : pm_W), PS X k 205 0 [.int 23, .int 1, .int 14] [] w20 r22 w23 ∧ (∀ x24 : Int32, r22 = some (.int x24) → SK w23 → (if p1 = ((x24 * 32) + 20) then (r = some (.int 7) ∧ w' = w23) else (∃ (r25 : Option Value) (w26 : pm_W), PS X k 205 0 [.int 15, .int 23, .int 5] [] w23 r25 w26 ∧ (∀ x27 : Int32, r25 = some (.int x27) → SK w26 → (if p1 = x27 then (r = some (.int 11) ∧ w' = w26) else (∃ (r28 : Option Value) (w29 : pm_W), PS X k 205 0 [.int 16, .int 1, .int 25] [] w26 r28 w29 ∧ (∀ x30 : Int32, r28 = some (.int x30) → SK w29 → (if p1 = x30 then (r = some (.int 12) ∧ w' = w29) else (∃ (r31 : Option Value) (w32 : pm_W), PS X k 205 0 [.int 18, .int 9, .int 14] [] w29 r31 w32 ∧ (∀ x33 : Int32, r31 = some (.int x33) → SK w32 → (if p1 = ((x33 * 32) + 7) then (r = some (.int 13) ∧ w' = w32) else (∃ (r34 : Option Value) (w35 : pm_W), PS X k 205 0 [.int 19, .int 20, .int 18] [] w32 r34 w35 ∧ (∀ x36 : Int32, r34 = some (.int x36) → SK w35 → (∃ (r37 : Option Value) (w38 : pm_W), PS X k 205 0 [.int 9, .int 11, .int 5] [] w35 r37 w38 ∧ (∀ x39 : Int32, r37 = some (.int x39) → SK w38 → (if p1 = ((x36 * 32768) + x39) then (r = some (.int 14) ∧ w' = w38) else (∃ (r40 : Option Value) (w41 : pm_W), PS X k 205 0 [.int 6, .int 1, .int 9] [] w38 r40 w41 ∧ (∀ x42 : Int32, r40 = some (.int x42) → SK w41 → (if p1 = ((x42 * 32) + 12) then (r = some (.int 15) ∧ w' = w41) else (∃ (r43 : Option Value) (w44 : pm_W), PS X k 205 0 [.int 13, .int 15, .int 14] [] w41 r43 w44 ∧ (∀ x45 : Int32, r43 = some (.int x45) → SK w44 → (if p1 = (((x45 * 1024) + 640) + 8) then (r = some (.int 16) ∧ w' = w44) else (r = some (.int 99) ∧ w' = w44))))))))))))))))))))))))))))))))))))))))))) := by
  have h := sp_one (i := .iload_n 0) (by decide +kernel) rfl h
  have h := sp_bipush (n := 16) (v := 16) (by decide +kernel) (by decide +kernel) h
  have h := sp_iconst (n := 5) (v := 5) (by decide +kernel) (by decide +kernel) h
  have h := sp_bipush (n := 15) (v := 15) (by decide +kernel) (by decide +kernel) h
  obtain ⟨r1, w2, hc, h⟩ := sp_callS (jj := 78) (mj := 205) (n := 3) (args := [.int 15, .int 5, .int 16]) (ls' := [.int 16, .int 5, .int 15]) (by decide +kernel) (by decide +kernel) (by decide +kernel) rfl rfl rfl h
  refine ⟨r1, w2, hc, fun x3 er hSw2 => ?_⟩
  subst er
  have h : PS X k 204 9 [.int p1] [.int x3, .int p1] w2 r w' := h
  have h := sp_ldc (j := 82) (v := 32768) (by decide +kernel) (by decide +kernel) h
  have h := sp_onk (i := .imul) (by decide +kernel) rfl h
  have h := sp_bipush (n := 16) (v := 16) (by decide +kernel) (by decide +kernel) h
  have h := sp_bipush (n := 12) (v := 12) (by decide +kernel) (by decide +kernel) h
  have h := sp_iconst (n := 5) (v := 5) (by decide +kernel) (by decide +kernel) h
  obtain ⟨r4, w5, hc, h⟩ := sp_callS (jj := 78) (mj := 205) (n := 3) (args := [.int 5, .int 12, .int 16]) (ls' := [.int 16, .int 12, .int 5]) (by decide +kernel) (by decide +kernel) (by decide +kernel) rfl rfl rfl h
  refine ⟨r4, w5, hc, fun x6 er hSw5 => ?_⟩
  subst er
  have h : PS X k 204 20 [.int p1] [.int x6, .int (x3 * 32768), .int p1] w5 r w' := h
  have h := sp_onk (i := .iadd) (by decide +kernel) rfl h
  rcases sp_icmp_ne (mi := 204) (pc := 21) (off := 5) (t := 26) (by decide +kernel) (by decide) rfl h with ⟨hc, h⟩ | ⟨hc, h⟩
  · refine ite_f hc ?_
    have h := sp_onk (i := .iload_n 0) (by decide +kernel) rfl h
    have h := sp_bipush (n := 23) (v := 23) (by decide +kernel) (by decide +kernel) h
    have h := sp_bipush (n := 15) (v := 15) (by decide +kernel) (by decide +kernel) h
    have h := sp_bipush (n := 18) (v := 18) (by decide +kernel) (by decide +kernel) h
    obtain ⟨r7, w8, hc, h⟩ := sp_callS (jj := 78) (mj := 205) (n := 3) (args := [.int 18, .int 15, .int 23]) (ls' := [.int 23, .int 15, .int 18]) (by decide +kernel) (by decide +kernel) (by decide +kernel) rfl rfl rfl h
    refine ⟨r7, w8, hc, fun x9 er hSw8 => ?_⟩
    subst er
    have h : PS X k 204 36 [.int p1] [.int x9, .int p1] w8 r w' := h
    have h := sp_bipush (n := 32) (v := 32) (by decide +kernel) (by decide +kernel) h
    have h := sp_onk (i := .imul) (by decide +kernel) rfl h
    have h := sp_iconst (n := 4) (v := 4) (by decide +kernel) (by decide +kernel) h
    have h := sp_onk (i := .iadd) (by decide +kernel) rfl h
    rcases sp_icmp_ne (mi := 204) (pc := 41) (off := 5) (t := 46) (by decide +kernel) (by decide) rfl h with ⟨hc, h⟩ | ⟨hc, h⟩
    · refine ite_f hc ?_
      have h := sp_onk (i := .iload_n 0) (by decide +kernel) rfl h
      have h := sp_iconst (n := 1) (v := 1) (by decide +kernel) (by decide +kernel) h
      have h := sp_bipush (n := 12) (v := 12) (by decide +kernel) (by decide +kernel) h
      have h := sp_bipush (n := 12) (v := 12) (by decide +kernel) (by decide +kernel) h
      obtain ⟨r10, w11, hc, h⟩ := sp_callS (jj := 78) (mj := 205) (n := 3) (args := [.int 12, .int 12, .int 1]) (ls' := [.int 1, .int 12, .int 12]) (by decide +kernel) (by decide +kernel) (by decide +kernel) rfl rfl rfl h
      refine ⟨r10, w11, hc, fun x12 er hSw11 => ?_⟩
      subst er
      have h : PS X k 204 55 [.int p1] [.int x12, .int p1] w11 r w' := h
      rcases sp_icmp_ne (mi := 204) (pc := 55) (off := 5) (t := 60) (by decide +kernel) (by decide) rfl h with ⟨hc, h⟩ | ⟨hc, h⟩
      · refine ite_f hc ?_
        have h := sp_onk (i := .iload_n 0) (by decide +kernel) rfl h
        have h := sp_bipush (n := 6) (v := 6) (by decide +kernel) (by decide +kernel) h
        have h := sp_iconst (n := 5) (v := 5) (by decide +kernel) (by decide +kernel) h
        have h := sp_iconst (n := 5) (v := 5) (by decide +kernel) (by decide +kernel) h
        obtain ⟨r13, w14, hc, h⟩ := sp_callS (jj := 78) (mj := 205) (n := 3) (args := [.int 5, .int 5, .int 6]) (ls' := [.int 6, .int 5, .int 5]) (by decide +kernel) (by decide +kernel) (by decide +kernel) rfl rfl rfl h
        refine ⟨r13, w14, hc, fun x15 er hSw14 => ?_⟩
        subst er
        have h : PS X k 204 68 [.int p1] [.int x15, .int p1] w14 r w' := h
        rcases sp_icmp_ne (mi := 204) (pc := 68) (off := 5) (t := 73) (by decide +kernel) (by decide) rfl h with ⟨hc, h⟩ | ⟨hc, h⟩
        · refine ite_f hc ?_
          have h := sp_onk (i := .iload_n 0) (by decide +kernel) rfl h
          have h := sp_bipush (n := 18) (v := 18) (by decide +kernel) (by decide +kernel) h
          have h := sp_bipush (n := 9) (v := 9) (by decide +kernel) (by decide +kernel) h
          have h := sp_bipush (n := 19) (v := 19) (by decide +kernel) (by decide +kernel) h
          obtain ⟨r16, w17, hc, h⟩ := sp_callS (jj := 78) (mj := 205) (n := 3) (args := [.int 19, .int 9, .int 18]) (ls' := [.int 18, .int 9, .int 19]) (by decide +kernel) (by decide +kernel) (by decide +kernel) rfl rfl rfl h
          refine ⟨r16, w17, hc, fun x18 er hSw17 => ?_⟩
          subst er
          have h : PS X k 204 83 [.int p1] [.int x18, .int p1] w17 r w' := h
          have h := sp_bipush (n := 32) (v := 32) (by decide +kernel) (by decide +kernel) h
          have h := sp_onk (i := .imul) (by decide +kernel) rfl h
          have h := sp_bipush (n := 11) (v := 11) (by decide +kernel) (by decide +kernel) h
          have h := sp_onk (i := .iadd) (by decide +kernel) rfl h
          rcases sp_icmp_ne (mi := 204) (pc := 89) (off := 5) (t := 94) (by decide +kernel) (by decide) rfl h with ⟨hc, h⟩ | ⟨hc, h⟩
          · refine ite_f hc ?_
            have h := sp_onk (i := .iload_n 0) (by decide +kernel) rfl h
            have h := sp_bipush (n := 19) (v := 19) (by decide +kernel) (by decide +kernel) h
            have h := sp_bipush (n := 12) (v := 12) (by decide +kernel) (by decide +kernel) h
            have h := sp_iconst (n := 1) (v := 1) (by decide +kernel) (by decide +kernel) h
            obtain ⟨r19, w20, hc, h⟩ := sp_callS (jj := 78) (mj := 205) (n := 3) (args := [.int 1, .int 12, .int 19]) (ls' := [.int 19, .int 12, .int 1]) (by decide +kernel) (by decide +kernel) (by decide +kernel) rfl rfl rfl h
            refine ⟨r19, w20, hc, fun x21 er hSw20 => ?_⟩
            subst er
            have h : PS X k 204 103 [.int p1] [.int x21, .int p1] w20 r w' := h
            have h := sp_sipush (n := 1024) (v := 1024) (by decide +kernel) (by decide +kernel) h
            have h := sp_onk (i := .imul) (by decide +kernel) rfl h
            have h := sp_bipush (n := 96) (v := 96) (by decide +kernel) (by decide +kernel) h
            have h := sp_onk (i := .iadd) (by decide +kernel) rfl h
            have h := sp_bipush (n := 11) (v := 11) (by decide +kernel) (by decide +kernel) h
            have h := sp_onk (i := .iadd) (by decide +kernel) rfl h
            rcases sp_icmp_ne (mi := 204) (pc := 113) (off := 6) (t := 119) (by decide +kernel) (by decide) rfl h with ⟨hc, h⟩ | ⟨hc, h⟩
            · refine ite_f hc ?_
              have h := sp_onk (i := .iload_n 0) (by decide +kernel) rfl h
              have h := sp_bipush (n := 23) (v := 23) (by decide +kernel) (by decide +kernel) h
              have h := sp_iconst (n := 1) (v := 1) (by decide +kernel) (by decide +kernel) h
              have h := sp_bipush (n := 14) (v := 14) (by decide +kernel) (by decide +kernel) h
              obtain ⟨r22, w23, hc, h⟩ := sp_callS (jj := 78) (mj := 205) (n := 3) (args := [.int 14, .int 1, .int 23]) (ls' := [.int 23, .int 1, .int 14]) (by decide +kernel) (by decide +kernel) (by decide +kernel) rfl rfl rfl h
              refine ⟨r22, w23, hc, fun x24 er hSw23 => ?_⟩
              subst er
              have h : PS X k 204 128 [.int p1] [.int x24, .int p1] w23 r w' := h
              have h := sp_bipush (n := 32) (v := 32) (by decide +kernel) (by decide +kernel) h
              have h := sp_onk (i := .imul) (by decide +kernel) rfl h
              have h := sp_bipush (n := 20) (v := 20) (by decide +kernel) (by decide +kernel) h
              have h := sp_onk (i := .iadd) (by decide +kernel) rfl h
              rcases sp_icmp_ne (mi := 204) (pc := 134) (off := 6) (t := 140) (by decide +kernel) (by decide) rfl h with ⟨hc, h⟩ | ⟨hc, h⟩
              · refine ite_f hc ?_
                have h := sp_onk (i := .iload_n 0) (by decide +kernel) rfl h
                have h := sp_bipush (n := 15) (v := 15) (by decide +kernel) (by decide +kernel) h
                have h := sp_bipush (n := 23) (v := 23) (by decide +kernel) (by decide +kernel) h
                have h := sp_iconst (n := 5) (v := 5) (by decide +kernel) (by decide +kernel) h
                obtain ⟨r25, w26, hc, h⟩ := sp_callS (jj := 78) (mj := 205) (n := 3) (args := [.int 5, .int 23, .int 15]) (ls' := [.int 15, .int 23, .int 5]) (by decide +kernel) (by decide +kernel) (by decide +kernel) rfl rfl rfl h
                refine ⟨r25, w26, hc, fun x27 er hSw26 => ?_⟩
                subst er
                have h : PS X k 204 149 [.int p1] [.int x27, .int p1] w26 r w' := h
                rcases sp_icmp_ne (mi := 204) (pc := 149) (off := 6) (t := 155) (by decide +kernel) (by decide) rfl h with ⟨hc, h⟩ | ⟨hc, h⟩
                · refine ite_f hc ?_
                  have h := sp_onk (i := .iload_n 0) (by decide +kernel) rfl h
                  have h := sp_bipush (n := 16) (v := 16) (by decide +kernel) (by decide +kernel) h
                  have h := sp_iconst (n := 1) (v := 1) (by decide +kernel) (by decide +kernel) h
                  have h := sp_bipush (n := 25) (v := 25) (by decide +kernel) (by decide +kernel) h
                  obtain ⟨r28, w29, hc, h⟩ := sp_callS (jj := 78) (mj := 205) (n := 3) (args := [.int 25, .int 1, .int 16]) (ls' := [.int 16, .int 1, .int 25]) (by decide +kernel) (by decide +kernel) (by decide +kernel) rfl rfl rfl h
                  refine ⟨r28, w29, hc, fun x30 er hSw29 => ?_⟩
                  subst er
                  have h : PS X k 204 164 [.int p1] [.int x30, .int p1] w29 r w' := h
                  rcases sp_icmp_ne (mi := 204) (pc := 164) (off := 6) (t := 170) (by decide +kernel) (by decide) rfl h with ⟨hc, h⟩ | ⟨hc, h⟩
                  · refine ite_f hc ?_
                    have h := sp_onk (i := .iload_n 0) (by decide +kernel) rfl h
                    have h := sp_bipush (n := 18) (v := 18) (by decide +kernel) (by decide +kernel) h
                    have h := sp_bipush (n := 9) (v := 9) (by decide +kernel) (by decide +kernel) h
                    have h := sp_bipush (n := 14) (v := 14) (by decide +kernel) (by decide +kernel) h
                    obtain ⟨r31, w32, hc, h⟩ := sp_callS (jj := 78) (mj := 205) (n := 3) (args := [.int 14, .int 9, .int 18]) (ls' := [.int 18, .int 9, .int 14]) (by decide +kernel) (by decide +kernel) (by decide +kernel) rfl rfl rfl h
                    refine ⟨r31, w32, hc, fun x33 er hSw32 => ?_⟩
                    subst er
                    have h : PS X k 204 180 [.int p1] [.int x33, .int p1] w32 r w' := h
                    have h := sp_bipush (n := 32) (v := 32) (by decide +kernel) (by decide +kernel) h
                    have h := sp_onk (i := .imul) (by decide +kernel) rfl h
                    have h := sp_bipush (n := 7) (v := 7) (by decide +kernel) (by decide +kernel) h
                    have h := sp_onk (i := .iadd) (by decide +kernel) rfl h
                    rcases sp_icmp_ne (mi := 204) (pc := 186) (off := 6) (t := 192) (by decide +kernel) (by decide) rfl h with ⟨hc, h⟩ | ⟨hc, h⟩
                    · refine ite_f hc ?_
                      have h := sp_onk (i := .iload_n 0) (by decide +kernel) rfl h
                      have h := sp_bipush (n := 19) (v := 19) (by decide +kernel) (by decide +kernel) h
                      have h := sp_bipush (n := 20) (v := 20) (by decide +kernel) (by decide +kernel) h
                      have h := sp_bipush (n := 18) (v := 18) (by decide +kernel) (by decide +kernel) h
                      obtain ⟨r34, w35, hc, h⟩ := sp_callS (jj := 78) (mj := 205) (n := 3) (args := [.int 18, .int 20, .int 19]) (ls' := [.int 19, .int 20, .int 18]) (by decide +kernel) (by decide +kernel) (by decide +kernel) rfl rfl rfl h
                      refine ⟨r34, w35, hc, fun x36 er hSw35 => ?_⟩
                      subst er
                      have h : PS X k 204 202 [.int p1] [.int x36, .int p1] w35 r w' := h
                      have h := sp_ldc (j := 82) (v := 32768) (by decide +kernel) (by decide +kernel) h
                      have h := sp_onk (i := .imul) (by decide +kernel) rfl h
                      have h := sp_bipush (n := 9) (v := 9) (by decide +kernel) (by decide +kernel) h
                      have h := sp_bipush (n := 11) (v := 11) (by decide +kernel) (by decide +kernel) h
                      have h := sp_iconst (n := 5) (v := 5) (by decide +kernel) (by decide +kernel) h
                      obtain ⟨r37, w38, hc, h⟩ := sp_callS (jj := 78) (mj := 205) (n := 3) (args := [.int 5, .int 11, .int 9]) (ls' := [.int 9, .int 11, .int 5]) (by decide +kernel) (by decide +kernel) (by decide +kernel) rfl rfl rfl h
                      refine ⟨r37, w38, hc, fun x39 er hSw38 => ?_⟩
                      subst er
                      have h : PS X k 204 213 [.int p1] [.int x39, .int (x36 * 32768), .int p1] w38 r w' := h
                      have h := sp_onk (i := .iadd) (by decide +kernel) rfl h
                      rcases sp_icmp_ne (mi := 204) (pc := 214) (off := 6) (t := 220) (by decide +kernel) (by decide) rfl h with ⟨hc, h⟩ | ⟨hc, h⟩
                      · refine ite_f hc ?_
                        have h := sp_onk (i := .iload_n 0) (by decide +kernel) rfl h
                        have h := sp_bipush (n := 6) (v := 6) (by decide +kernel) (by decide +kernel) h
                        have h := sp_iconst (n := 1) (v := 1) (by decide +kernel) (by decide +kernel) h
                        have h := sp_bipush (n := 9) (v := 9) (by decide +kernel) (by decide +kernel) h
                        obtain ⟨r40, w41, hc, h⟩ := sp_callS (jj := 78) (mj := 205) (n := 3) (args := [.int 9, .int 1, .int 6]) (ls' := [.int 6, .int 1, .int 9]) (by decide +kernel) (by decide +kernel) (by decide +kernel) rfl rfl rfl h
                        refine ⟨r40, w41, hc, fun x42 er hSw41 => ?_⟩
                        subst er
                        have h : PS X k 204 229 [.int p1] [.int x42, .int p1] w41 r w' := h
                        have h := sp_bipush (n := 32) (v := 32) (by decide +kernel) (by decide +kernel) h
                        have h := sp_onk (i := .imul) (by decide +kernel) rfl h
                        have h := sp_bipush (n := 12) (v := 12) (by decide +kernel) (by decide +kernel) h
                        have h := sp_onk (i := .iadd) (by decide +kernel) rfl h
                        rcases sp_icmp_ne (mi := 204) (pc := 235) (off := 6) (t := 241) (by decide +kernel) (by decide) rfl h with ⟨hc, h⟩ | ⟨hc, h⟩
                        · refine ite_f hc ?_
                          have h := sp_onk (i := .iload_n 0) (by decide +kernel) rfl h
                          have h := sp_bipush (n := 13) (v := 13) (by decide +kernel) (by decide +kernel) h
                          have h := sp_bipush (n := 15) (v := 15) (by decide +kernel) (by decide +kernel) h
                          have h := sp_bipush (n := 14) (v := 14) (by decide +kernel) (by decide +kernel) h
                          obtain ⟨r43, w44, hc, h⟩ := sp_callS (jj := 78) (mj := 205) (n := 3) (args := [.int 14, .int 15, .int 13]) (ls' := [.int 13, .int 15, .int 14]) (by decide +kernel) (by decide +kernel) (by decide +kernel) rfl rfl rfl h
                          refine ⟨r43, w44, hc, fun x45 er hSw44 => ?_⟩
                          subst er
                          have h : PS X k 204 251 [.int p1] [.int x45, .int p1] w44 r w' := h
                          have h := sp_sipush (n := 1024) (v := 1024) (by decide +kernel) (by decide +kernel) h
                          have h := sp_onk (i := .imul) (by decide +kernel) rfl h
                          have h := sp_sipush (n := 640) (v := 640) (by decide +kernel) (by decide +kernel) h
                          have h := sp_onk (i := .iadd) (by decide +kernel) rfl h
                          have h := sp_bipush (n := 8) (v := 8) (by decide +kernel) (by decide +kernel) h
                          have h := sp_onk (i := .iadd) (by decide +kernel) rfl h
                          rcases sp_icmp_ne (mi := 204) (pc := 262) (off := 8) (t := 270) (by decide +kernel) (by decide) rfl h with ⟨hc, h⟩ | ⟨hc, h⟩
                          · refine ite_f hc ?_
                            have h := sp_bipush (n := 99) (v := 99) (by decide +kernel) (by decide +kernel) h
                            exact sp_iret (by decide +kernel) h
                          · refine ite_t (Classical.not_not.mp hc) ?_
                            have h := sp_bipush (n := 16) (v := 16) (by decide +kernel) (by decide +kernel) h
                            have h := sp_goto (mi := 204) (pc := 267) (off := 5) (t := 272) (by decide +kernel) (by decide) rfl h
                            exact sp_iret (by decide +kernel) h
                        · refine ite_t (Classical.not_not.mp hc) ?_
                          have h := sp_bipush (n := 15) (v := 15) (by decide +kernel) (by decide +kernel) h
                          exact sp_iret (by decide +kernel) h
                      · refine ite_t (Classical.not_not.mp hc) ?_
                        have h := sp_bipush (n := 14) (v := 14) (by decide +kernel) (by decide +kernel) h
                        exact sp_iret (by decide +kernel) h
                    · refine ite_t (Classical.not_not.mp hc) ?_
                      have h := sp_bipush (n := 13) (v := 13) (by decide +kernel) (by decide +kernel) h
                      exact sp_iret (by decide +kernel) h
                  · refine ite_t (Classical.not_not.mp hc) ?_
                    have h := sp_bipush (n := 12) (v := 12) (by decide +kernel) (by decide +kernel) h
                    exact sp_iret (by decide +kernel) h
                · refine ite_t (Classical.not_not.mp hc) ?_
                  have h := sp_bipush (n := 11) (v := 11) (by decide +kernel) (by decide +kernel) h
                  exact sp_iret (by decide +kernel) h
              · refine ite_t (Classical.not_not.mp hc) ?_
                have h := sp_bipush (n := 7) (v := 7) (by decide +kernel) (by decide +kernel) h
                exact sp_iret (by decide +kernel) h
            · refine ite_t (Classical.not_not.mp hc) ?_
              have h := sp_bipush (n := 6) (v := 6) (by decide +kernel) (by decide +kernel) h
              exact sp_iret (by decide +kernel) h
          · refine ite_t (Classical.not_not.mp hc) ?_
            have h := sp_iconst (n := 5) (v := 5) (by decide +kernel) (by decide +kernel) h
            exact sp_iret (by decide +kernel) h
        · refine ite_t (Classical.not_not.mp hc) ?_
          have h := sp_iconst (n := 4) (v := 4) (by decide +kernel) (by decide +kernel) h
          exact sp_iret (by decide +kernel) h
      · refine ite_t (Classical.not_not.mp hc) ?_
        have h := sp_iconst (n := 3) (v := 3) (by decide +kernel) (by decide +kernel) h
        exact sp_iret (by decide +kernel) h
    · refine ite_t (Classical.not_not.mp hc) ?_
      have h := sp_iconst (n := 2) (v := 2) (by decide +kernel) (by decide +kernel) h
      exact sp_iret (by decide +kernel) h
  · refine ite_t (Classical.not_not.mp hc) ?_
    have h := sp_iconst (n := 1) (v := 1) (by decide +kernel) (by decide +kernel) h
    exact sp_iret (by decide +kernel) h
set_option maxRecDepth 20000 in
set_option maxHeartbeats 2000000 in
theorem U205_0 {X : pm_X} {k : Nat} {w w' : pm_W} {r : Option Value} {p1 : Int32} {p2 : Int32} {p3 : Int32} (hS : SK w) (h : PS X (k + 1) 205 0 [.int p1, .int p2, .int p3] [] w r w') : r = some (.int ((((p1 * 32) + p2) * 32) + p3)) ∧ w' = w := by
  have h := sp_one (i := .iload_n 0) (by decide +kernel) rfl h
  have h := sp_bipush (n := 32) (v := 32) (by decide +kernel) (by decide +kernel) h
  have h := sp_onk (i := .imul) (by decide +kernel) rfl h
  have h := sp_onk (i := .iload_n 1) (by decide +kernel) rfl h
  have h := sp_onk (i := .iadd) (by decide +kernel) rfl h
  have h := sp_bipush (n := 32) (v := 32) (by decide +kernel) (by decide +kernel) h
  have h := sp_onk (i := .imul) (by decide +kernel) rfl h
  have h := sp_onk (i := .iload_n 2) (by decide +kernel) rfl h
  have h := sp_onk (i := .iadd) (by decide +kernel) rfl h
  exact sp_iret (by decide +kernel) h
set_option maxRecDepth 20000 in
set_option maxHeartbeats 2000000 in
theorem U206_0 {X : pm_X} {k : Nat} {w w' : pm_W} {r : Option Value} {p1 : Int32} (hS : SK w) (h : PS X (k + 1) 206 0 [.int p1] [] w r w') : if p1 < 48 then (r = some (.int 0) ∧ w' = w) else (if 57 < p1 then (r = some (.int 0) ∧ w' = w) else (r = some (.int 1) ∧ w' = w)) := by
  have h := sp_one (i := .iload_n 0) (by decide +kernel) rfl h
  have h := sp_bipush (n := 48) (v := 48) (by decide +kernel) (by decide +kernel) h
  rcases sp_icmp_lt (mi := 206) (pc := 3) (off := 13) (t := 16) (by decide +kernel) (by decide) rfl h with ⟨hc, h⟩ | ⟨hc, h⟩
  · refine ite_t hc ?_
    have h := sp_iconst (n := 0) (v := 0) (by decide +kernel) (by decide +kernel) h
    exact sp_iret (by decide +kernel) h
  · refine ite_f hc ?_
    have h := sp_onk (i := .iload_n 0) (by decide +kernel) rfl h
    have h := sp_bipush (n := 57) (v := 57) (by decide +kernel) (by decide +kernel) h
    rcases sp_icmp_gt (mi := 206) (pc := 9) (off := 7) (t := 16) (by decide +kernel) (by decide) rfl h with ⟨hc, h⟩ | ⟨hc, h⟩
    · refine ite_t hc ?_
      have h := sp_iconst (n := 0) (v := 0) (by decide +kernel) (by decide +kernel) h
      exact sp_iret (by decide +kernel) h
    · refine ite_f hc ?_
      have h := sp_iconst (n := 1) (v := 1) (by decide +kernel) (by decide +kernel) h
      have h := sp_goto (mi := 206) (pc := 13) (off := 4) (t := 17) (by decide +kernel) (by decide) rfl h
      exact sp_iret (by decide +kernel) h
set_option maxRecDepth 20000 in
set_option maxHeartbeats 2000000 in
theorem U207_0 {X : pm_X} {k : Nat} {w w' : pm_W} {r : Option Value} (hS : SK w) (h : PS X (k + 1) 207 0 [.ref 147, pm_dead, pm_dead, pm_dead, pm_dead] [] w r w') : ∃ (r1 : Option Value) (w2 : pm_W), PS X k 208 0 [.ref 147, .int 1, .int 7, pm_dead] [] w r1 w2 ∧ (∀ x3 : Int32, r1 = some (.int x3) → SK w2 → (if x3 = 1 then (∃ (r4 : Option Value) (w5 : pm_W), PS X k 210 0 [.ref 147, .int 2, .int 9, pm_dead] [] w2 r4 w5 ∧ (∀ x6 : Int32, r4 = some (.int x6) → SK w5 → (aI w5 150 0 ∧ (∀ w7 : pm_W, w7 = aS w5 150 0 x6 → (PS X k 207 31 [.ref 147, .int (gI w 147 4), .int x3, pm_dead, pm_dead] [] w7 r w'))))) else (PS X k 207 31 [.ref 147, .int (gI w 147 4), .int x3, pm_dead, pm_dead] [] w2 r w'))) := by
  have h := sp_one (i := .aload_n 0) (by decide +kernel) rfl h
  have h := sp_getI (jj := 90) (ci := 12) (n := 4) (by decide +kernel) (by decide +kernel) (by decide +kernel) hS h
  have h := sp_istore_n (j := 1) (ls' := [.ref 147, .int (gI w 147 4), pm_dead, pm_dead, pm_dead]) (by decide +kernel) (Nat.le_of_ble_eq_true rfl) rfl h
  have h := sp_onk (i := .aload_n 0) (by decide +kernel) rfl h
  have h := sp_iconst (n := 1) (v := 1) (by decide +kernel) (by decide +kernel) h
  have h := sp_bipush (n := 7) (v := 7) (by decide +kernel) (by decide +kernel) h
  obtain ⟨r1, w2, hc, h⟩ := sp_callV (jj := 140) (mj := 208) (n := 2) (v := .ref 147) (args := [.int 7, .int 1]) (ls' := [.ref 147, .int 1, .int 7, pm_dead]) (by decide +kernel) (by decide +kernel) rfl rfl rfl h
  refine ⟨r1, w2, hc, fun x3 er hSw2 => ?_⟩
  subst er
  have h : PS X k 207 12 [.ref 147, .int (gI w 147 4), pm_dead, pm_dead, pm_dead] [.int x3] w2 r w' := h
  have h := sp_istore_n (j := 2) (ls' := [.ref 147, .int (gI w 147 4), .int x3, pm_dead, pm_dead]) (by decide +kernel) (Nat.le_of_ble_eq_true rfl) rfl h
  have h := sp_onk (i := .iload_n 2) (by decide +kernel) rfl h
  have h := sp_iconst (n := 1) (v := 1) (by decide +kernel) (by decide +kernel) h
  rcases sp_icmp_ne (mi := 207) (pc := 15) (off := 16) (t := 31) (by decide +kernel) (by decide) rfl h with ⟨hc, h⟩ | ⟨hc, h⟩
  · refine ite_f hc ?_
    exact h
  · refine ite_t (Classical.not_not.mp hc) ?_
    have h := sp_onk (i := .aload_n 0) (by decide +kernel) rfl h
    have h := sp_getK (jj := 17) (ci := 12) (n := 10) (b := 150) (by decide +kernel) (by decide +kernel) (by decide +kernel) (by decide +kernel) (by decide) hSw2 h
    have h := sp_iconst (n := 0) (v := 0) (by decide +kernel) (by decide +kernel) h
    have h := sp_onk (i := .aload_n 0) (by decide +kernel) rfl h
    have h := sp_iconst (n := 2) (v := 2) (by decide +kernel) (by decide +kernel) h
    have h := sp_bipush (n := 9) (v := 9) (by decide +kernel) (by decide +kernel) h
    obtain ⟨r4, w5, hc, h⟩ := sp_callV (jj := 130) (mj := 210) (n := 2) (v := .ref 147) (args := [.int 9, .int 2]) (ls' := [.ref 147, .int 2, .int 9, pm_dead]) (by decide +kernel) (by decide +kernel) rfl rfl rfl h
    refine ⟨r4, w5, hc, fun x6 er hSw5 => ?_⟩
    subst er
    have h : PS X k 207 30 [.ref 147, .int (gI w 147 4), .int x3, pm_dead, pm_dead] [.int x6, .int 0, .ref 150] w5 r w' := h
    obtain ⟨hi, h⟩ := sp_iast (by decide +kernel) h
    refine ⟨hi, ?_⟩
    intro w7 ew7
    rw [← ew7] at h
    have hSw7 : SK w7 := by rw [ew7]; exact SK_aS hSw5
    exact h
set_option maxRecDepth 20000 in
set_option maxHeartbeats 2000000 in
theorem U207_31 {X : pm_X} {k : Nat} {w w' : pm_W} {r : Option Value} {i1 : Int32} {i2 : Int32} (hS : SK w) (h : PS X (k + 1) 207 31 [.ref 147, .int i1, .int i2, pm_dead, pm_dead] [] w r w') : if i2 = 2 then (∃ (r1 : Option Value) (w2 : pm_W), PS X k 212 0 [.ref 147, .int (-1), pm_dead] [] w r1 w2 ∧ (∀ x3 : Int32, r1 = some (.int x3) → SK w2 → (∃ (r4 : Option Value) (w5 : pm_W), PS X k 212 0 [.ref 147, .int x3, pm_dead] [] w2 r4 w5 ∧ (∀ x6 : Int32, r4 = some (.int x6) → SK w5 → (∃ (r7 : Option Value) (w8 : pm_W), PS X k 210 0 [.ref 147, .int 0, .int 99, pm_dead] [] w5 r7 w8 ∧ (∀ x9 : Int32, r7 = some (.int x9) → SK w8 → (aI w8 150 ((3 + (9 * x3)) + x6) ∧ (∀ w10 : pm_W, w10 = aS w8 150 ((3 + (9 * x3)) + x6) x9 → (PS X k 207 70 [.ref 147, .int i1, .int i2, .int x3, .int x6] [] w10 r w'))))))))) else (PS X k 207 70 [.ref 147, .int i1, .int i2, pm_dead, pm_dead] [] w r w') := by
  have h := sp_one (i := .iload_n 2) (by decide +kernel) rfl h
  have h := sp_iconst (n := 2) (v := 2) (by decide +kernel) (by decide +kernel) h
  rcases sp_icmp_ne (mi := 207) (pc := 33) (off := 37) (t := 70) (by decide +kernel) (by decide) rfl h with ⟨hc, h⟩ | ⟨hc, h⟩
  · refine ite_f hc ?_
    exact h
  · refine ite_t (Classical.not_not.mp hc) ?_
    have h := sp_onk (i := .aload_n 0) (by decide +kernel) rfl h
    have h := sp_iconst (n := (-1)) (v := (-1)) (by decide +kernel) (by decide +kernel) h
    obtain ⟨r1, w2, hc, h⟩ := sp_callV (jj := 137) (mj := 212) (n := 1) (v := .ref 147) (args := [.int (-1)]) (ls' := [.ref 147, .int (-1), pm_dead]) (by decide +kernel) (by decide +kernel) rfl rfl rfl h
    refine ⟨r1, w2, hc, fun x3 er hSw2 => ?_⟩
    subst er
    have h : PS X k 207 41 [.ref 147, .int i1, .int i2, pm_dead, pm_dead] [.int x3] w2 r w' := h
    have h := sp_istore_n (j := 3) (ls' := [.ref 147, .int i1, .int i2, .int x3, pm_dead]) (by decide +kernel) (Nat.le_of_ble_eq_true rfl) rfl h
    have h := sp_onk (i := .aload_n 0) (by decide +kernel) rfl h
    have h := sp_onk (i := .iload_n 3) (by decide +kernel) rfl h
    obtain ⟨r4, w5, hc, h⟩ := sp_callV (jj := 137) (mj := 212) (n := 1) (v := .ref 147) (args := [.int x3]) (ls' := [.ref 147, .int x3, pm_dead]) (by decide +kernel) (by decide +kernel) rfl rfl rfl h
    refine ⟨r4, w5, hc, fun x6 er hSw5 => ?_⟩
    subst er
    have h : PS X k 207 47 [.ref 147, .int i1, .int i2, .int x3, pm_dead] [.int x6] w5 r w' := h
    have h := sp_istore (j := 4) (ls' := [.ref 147, .int i1, .int i2, .int x3, .int x6]) (by decide +kernel) (Nat.le_of_ble_eq_true rfl) rfl h
    have h := sp_onk (i := .aload_n 0) (by decide +kernel) rfl h
    have h := sp_getK (jj := 17) (ci := 12) (n := 10) (b := 150) (by decide +kernel) (by decide +kernel) (by decide +kernel) (by decide +kernel) (by decide) hSw5 h
    have h := sp_iconst (n := 3) (v := 3) (by decide +kernel) (by decide +kernel) h
    have h := sp_bipush (n := 9) (v := 9) (by decide +kernel) (by decide +kernel) h
    have h := sp_onk (i := .iload_n 3) (by decide +kernel) rfl h
    have h := sp_onk (i := .imul) (by decide +kernel) rfl h
    have h := sp_onk (i := .iadd) (by decide +kernel) rfl h
    have h := sp_onk (i := .iload 4) (by decide +kernel) rfl h
    have h := sp_onk (i := .iadd) (by decide +kernel) rfl h
    have h := sp_onk (i := .aload_n 0) (by decide +kernel) rfl h
    have h := sp_iconst (n := 0) (v := 0) (by decide +kernel) (by decide +kernel) h
    have h := sp_bipush (n := 99) (v := 99) (by decide +kernel) (by decide +kernel) h
    obtain ⟨r7, w8, hc, h⟩ := sp_callV (jj := 130) (mj := 210) (n := 2) (v := .ref 147) (args := [.int 99, .int 0]) (ls' := [.ref 147, .int 0, .int 99, pm_dead]) (by decide +kernel) (by decide +kernel) rfl rfl rfl h
    refine ⟨r7, w8, hc, fun x9 er hSw8 => ?_⟩
    subst er
    have h : PS X k 207 69 [.ref 147, .int i1, .int i2, .int x3, .int x6] [.int x9, .int ((3 + (9 * x3)) + x6), .ref 150] w8 r w' := h
    obtain ⟨hi, h⟩ := sp_iast (by decide +kernel) h
    refine ⟨hi, ?_⟩
    intro w10 ew10
    rw [← ew10] at h
    have hSw10 : SK w10 := by rw [ew10]; exact SK_aS hSw8
    exact h
set_option maxRecDepth 20000 in
set_option maxHeartbeats 2000000 in
theorem U207_70 {X : pm_X} {k : Nat} {w w' : pm_W} {r : Option Value} {i1 : Int32} {i2 : Int32} {u3 : Value} {u4 : Value} (hS : SK w) (h : PS X (k + 1) 207 70 [.ref 147, .int i1, .int i2, u3, u4] [] w r w') : if i2 = 3 then (∃ (r1 : Option Value) (w2 : pm_W), PS X k 210 0 [.ref 147, .int 0, .int 99, pm_dead] [] w r1 w2 ∧ (∀ x3 : Int32, r1 = some (.int x3) → SK w2 → (PS X k 207 86 [.ref 147, .int i1, .int i2, .int x3, .int 0] [] w2 r w'))) else (PS X k 207 121 [.ref 147, .int i1, .int i2, u3, u4] [] w r w') := by
  have h := sp_one (i := .iload_n 2) (by decide +kernel) rfl h
  have h := sp_iconst (n := 3) (v := 3) (by decide +kernel) (by decide +kernel) h
  rcases sp_icmp_ne (mi := 207) (pc := 72) (off := 49) (t := 121) (by decide +kernel) (by decide) rfl h with ⟨hc, h⟩ | ⟨hc, h⟩
  · refine ite_f hc ?_
    exact h
  · refine ite_t (Classical.not_not.mp hc) ?_
    have h := sp_onk (i := .aload_n 0) (by decide +kernel) rfl h
    have h := sp_iconst (n := 0) (v := 0) (by decide +kernel) (by decide +kernel) h
    have h := sp_bipush (n := 99) (v := 99) (by decide +kernel) (by decide +kernel) h
    obtain ⟨r1, w2, hc, h⟩ := sp_callV (jj := 130) (mj := 210) (n := 2) (v := .ref 147) (args := [.int 99, .int 0]) (ls' := [.ref 147, .int 0, .int 99, pm_dead]) (by decide +kernel) (by decide +kernel) rfl rfl rfl h
    refine ⟨r1, w2, hc, fun x3 er hSw2 => ?_⟩
    subst er
    have h : PS X k 207 82 [.ref 147, .int i1, .int i2, u3, u4] [.int x3] w2 r w' := h
    have h := sp_istore_n (j := 3) (ls' := [.ref 147, .int i1, .int i2, .int x3, u4]) (by decide +kernel) (Nat.le_of_ble_eq_true rfl) rfl h
    have h := sp_iconst (n := 0) (v := 0) (by decide +kernel) (by decide +kernel) h
    have h := sp_istore (j := 4) (ls' := [.ref 147, .int i1, .int i2, .int x3, .int 0]) (by decide +kernel) (Nat.le_of_ble_eq_true rfl) rfl h
    exact h
set_option maxRecDepth 20000 in
set_option maxHeartbeats 2000000 in
theorem U207_86 {X : pm_X} {k : Nat} {w w' : pm_W} {r : Option Value} {i1 : Int32} {i2 : Int32} {i3 : Int32} {i4 : Int32} (hS : SK w) (h : PS X (k + 1) 207 86 [.ref 147, .int i1, .int i2, .int i3, .int i4] [] w r w') : if 81 ≤ i4 then (PS X k 207 121 [.ref 147, .int i1, .int i2, .int i3, .int i4] [] w r w') else (if (i4 - i4 / 10 * 10) = 0 then (aI w 150 (3 + i4) ∧ (∀ w2 : pm_W, w2 = aS w 150 (3 + i4) 0 → (PS X k 207 86 [.ref 147, .int i1, .int i2, .int i3, .int (i4 + 1)] [] w2 r w'))) else (aI w 150 (3 + i4) ∧ (∀ w1 : pm_W, w1 = aS w 150 (3 + i4) i3 → (PS X k 207 86 [.ref 147, .int i1, .int i2, .int i3, .int (i4 + 1)] [] w1 r w')))) := by
  have h := sp_one (i := .iload 4) (by decide +kernel) rfl h
  have h := sp_bipush (n := 81) (v := 81) (by decide +kernel) (by decide +kernel) h
  rcases sp_icmp_ge (mi := 207) (pc := 90) (off := 31) (t := 121) (by decide +kernel) (by decide) rfl h with ⟨hc, h⟩ | ⟨hc, h⟩
  · refine ite_t hc ?_
    exact h
  · refine ite_f hc ?_
    have h := sp_onk (i := .aload_n 0) (by decide +kernel) rfl h
    have h := sp_getK (jj := 17) (ci := 12) (n := 10) (b := 150) (by decide +kernel) (by decide +kernel) (by decide +kernel) (by decide +kernel) (by decide) hS h
    have h := sp_iconst (n := 3) (v := 3) (by decide +kernel) (by decide +kernel) h
    have h := sp_onk (i := .iload 4) (by decide +kernel) rfl h
    have h := sp_onk (i := .iadd) (by decide +kernel) rfl h
    have h := sp_onk (i := .iload 4) (by decide +kernel) rfl h
    have h := sp_bipush (n := 10) (v := 10) (by decide +kernel) (by decide +kernel) h
    have h := sp_irem (by decide +kernel) h
    rcases sp_if_ne (mi := 207) (pc := 106) (off := 7) (t := 113) (by decide +kernel) (by decide) rfl h with ⟨hc, h⟩ | ⟨hc, h⟩
    · refine ite_f hc ?_
      have h := sp_onk (i := .iload_n 3) (by decide +kernel) rfl h
      obtain ⟨hi, h⟩ := sp_iast (by decide +kernel) h
      refine ⟨hi, ?_⟩
      intro w1 ew1
      rw [← ew1] at h
      have hSw1 : SK w1 := by rw [ew1]; exact SK_aS hS
      have h := sp_iinc (j := 4) (n := 1) (v := 1) (ls' := [.ref 147, .int i1, .int i2, .int i3, .int (i4 + 1)]) (by decide +kernel) rfl (by decide +kernel) rfl h
      have h := sp_goto (mi := 207) (pc := 118) (off := (-32)) (t := 86) (by decide +kernel) (by decide) rfl h
      exact h
    · refine ite_t (Classical.not_not.mp hc) ?_
      have h := sp_iconst (n := 0) (v := 0) (by decide +kernel) (by decide +kernel) h
      have h := sp_goto (mi := 207) (pc := 110) (off := 4) (t := 114) (by decide +kernel) (by decide) rfl h
      obtain ⟨hi, h⟩ := sp_iast (by decide +kernel) h
      refine ⟨hi, ?_⟩
      intro w2 ew2
      rw [← ew2] at h
      have hSw2 : SK w2 := by rw [ew2]; exact SK_aS hS
      have h := sp_iinc (j := 4) (n := 1) (v := 1) (ls' := [.ref 147, .int i1, .int i2, .int i3, .int (i4 + 1)]) (by decide +kernel) rfl (by decide +kernel) rfl h
      have h := sp_goto (mi := 207) (pc := 118) (off := (-32)) (t := 86) (by decide +kernel) (by decide) rfl h
      exact h
set_option maxRecDepth 20000 in
set_option maxHeartbeats 2000000 in
theorem U207_121 {X : pm_X} {k : Nat} {w w' : pm_W} {r : Option Value} {i1 : Int32} {i2 : Int32} {u3 : Value} {u4 : Value} (hS : SK w) (h : PS X (k + 1) 207 121 [.ref 147, .int i1, .int i2, u3, u4] [] w r w') : if i2 = 4 then (PS X k 207 131 [.ref 147, .int i1, .int i2, u3, u4] [] w r w') else (if i2 = 5 then (PS X k 207 131 [.ref 147, .int i1, .int i2, u3, u4] [] w r w') else (PS X k 207 182 [.ref 147, .int i1, .int i2, u3, u4] [] w r w')) := by
  have h := sp_one (i := .iload_n 2) (by decide +kernel) rfl h
  have h := sp_iconst (n := 4) (v := 4) (by decide +kernel) (by decide +kernel) h
  rcases sp_icmp_eq (mi := 207) (pc := 123) (off := 8) (t := 131) (by decide +kernel) (by decide) rfl h with ⟨hc, h⟩ | ⟨hc, h⟩
  · refine ite_t hc ?_
    exact h
  · refine ite_f hc ?_
    have h := sp_onk (i := .iload_n 2) (by decide +kernel) rfl h
    have h := sp_iconst (n := 5) (v := 5) (by decide +kernel) (by decide +kernel) h
    rcases sp_icmp_ne (mi := 207) (pc := 128) (off := 54) (t := 182) (by decide +kernel) (by decide) rfl h with ⟨hc, h⟩ | ⟨hc, h⟩
    · refine ite_f hc ?_
      exact h
    · refine ite_t (Classical.not_not.mp hc) ?_
      exact h
set_option maxRecDepth 20000 in
set_option maxHeartbeats 2000000 in
theorem U207_131 {X : pm_X} {k : Nat} {w w' : pm_W} {r : Option Value} {i1 : Int32} {i2 : Int32} {u3 : Value} {u4 : Value} (hS : SK w) (h : PS X (k + 1) 207 131 [.ref 147, .int i1, .int i2, u3, u4] [] w r w') : ∃ (r1 : Option Value) (w2 : pm_W), PS X k 212 0 [.ref 147, .int (-1), pm_dead] [] w r1 w2 ∧ (∀ x3 : Int32, r1 = some (.int x3) → SK w2 → (if i2 = 4 then (∃ (r9 : Option Value) (w10 : pm_W), PS X k 210 0 [.ref 147, .int 0, .int 99, pm_dead] [] w2 r9 w10 ∧ (∀ x11 : Int32, r9 = some (.int x11) → SK w10 → (if i2 = 4 then (aI w10 150 (84 + x3) ∧ (∀ w13 : pm_W, w13 = aS w10 150 (84 + x3) x11 → (PS X k 207 182 [.ref 147, .int i1, .int i2, .int x3, .int x11] [] w13 r w'))) else (aI w10 150 (93 + x3) ∧ (∀ w12 : pm_W, w12 = aS w10 150 (93 + x3) x11 → (PS X k 207 182 [.ref 147, .int i1, .int i2, .int x3, .int x11] [] w12 r w')))))) else (∃ (r4 : Option Value) (w5 : pm_W), PS X k 210 0 [.ref 147, .int 0, .int 100, pm_dead] [] w2 r4 w5 ∧ (∀ x6 : Int32, r4 = some (.int x6) → SK w5 → (if i2 = 4 then (aI w5 150 (84 + x3) ∧ (∀ w8 : pm_W, w8 = aS w5 150 (84 + x3) x6 → (PS X k 207 182 [.ref 147, .int i1, .int i2, .int x3, .int x6] [] w8 r w'))) else (aI w5 150 (93 + x3) ∧ (∀ w7 : pm_W, w7 = aS w5 150 (93 + x3) x6 → (PS X k 207 182 [.ref 147, .int i1, .int i2, .int x3, .int x6] [] w7 r w')))))))) := by
  have h := sp_one (i := .aload_n 0) (by decide +kernel) rfl h
  have h := sp_iconst (n := (-1)) (v := (-1)) (by decide +kernel) (by decide +kernel) h
  obtain ⟨r1, w2, hc, h⟩ := sp_callV (jj := 137) (mj := 212) (n := 1) (v := .ref 147) (args := [.int (-1)]) (ls' := [.ref 147, .int (-1), pm_dead]) (by decide +kernel) (by decide +kernel) rfl rfl rfl h
  refine ⟨r1, w2, hc, fun x3 er hSw2 => ?_⟩
  subst er
  have h : PS X k 207 136 [.ref 147, .int i1, .int i2, u3, u4] [.int x3] w2 r w' := h
  have h := sp_istore_n (j := 3) (ls' := [.ref 147, .int i1, .int i2, .int x3, u4]) (by decide +kernel) (Nat.le_of_ble_eq_true rfl) rfl h
  have h := sp_onk (i := .iload_n 2) (by decide +kernel) rfl h
  have h := sp_iconst (n := 4) (v := 4) (by decide +kernel) (by decide +kernel) h
  rcases sp_icmp_ne (mi := 207) (pc := 139) (off := 13) (t := 152) (by decide +kernel) (by decide) rfl h with ⟨hc, h⟩ | ⟨hc, h⟩
  · refine ite_f hc ?_
    have h := sp_onk (i := .aload_n 0) (by decide +kernel) rfl h
    have h := sp_iconst (n := 0) (v := 0) (by decide +kernel) (by decide +kernel) h
    have h := sp_bipush (n := 100) (v := 100) (by decide +kernel) (by decide +kernel) h
    obtain ⟨r4, w5, hc, h⟩ := sp_callV (jj := 130) (mj := 210) (n := 2) (v := .ref 147) (args := [.int 100, .int 0]) (ls' := [.ref 147, .int 0, .int 100, pm_dead]) (by decide +kernel) (by decide +kernel) rfl rfl rfl h
    refine ⟨r4, w5, hc, fun x6 er hSw5 => ?_⟩
    subst er
    have h : PS X k 207 159 [.ref 147, .int i1, .int i2, .int x3, u4] [.int x6] w5 r w' := h
    have h := sp_istore (j := 4) (ls' := [.ref 147, .int i1, .int i2, .int x3, .int x6]) (by decide +kernel) (Nat.le_of_ble_eq_true rfl) rfl h
    have h := sp_onk (i := .aload_n 0) (by decide +kernel) rfl h
    have h := sp_getK (jj := 17) (ci := 12) (n := 10) (b := 150) (by decide +kernel) (by decide +kernel) (by decide +kernel) (by decide +kernel) (by decide) hSw5 h
    have h := sp_onk (i := .iload_n 2) (by decide +kernel) rfl h
    have h := sp_iconst (n := 4) (v := 4) (by decide +kernel) (by decide +kernel) h
    rcases sp_icmp_ne (mi := 207) (pc := 167) (off := 8) (t := 175) (by decide +kernel) (by decide) rfl h with ⟨hc, h⟩ | ⟨hc, h⟩
    · refine ite_f hc ?_
      have h := sp_bipush (n := 93) (v := 93) (by decide +kernel) (by decide +kernel) h
      have h := sp_onk (i := .iload_n 3) (by decide +kernel) rfl h
      have h := sp_onk (i := .iadd) (by decide +kernel) rfl h
      have h := sp_onk (i := .iload 4) (by decide +kernel) rfl h
      obtain ⟨hi, h⟩ := sp_iast (by decide +kernel) h
      refine ⟨hi, ?_⟩
      intro w7 ew7
      rw [← ew7] at h
      have hSw7 : SK w7 := by rw [ew7]; exact SK_aS hSw5
      exact h
    · refine ite_t (Classical.not_not.mp hc) ?_
      have h := sp_bipush (n := 84) (v := 84) (by decide +kernel) (by decide +kernel) h
      have h := sp_goto (mi := 207) (pc := 172) (off := 5) (t := 177) (by decide +kernel) (by decide) rfl h
      have h := sp_onk (i := .iload_n 3) (by decide +kernel) rfl h
      have h := sp_onk (i := .iadd) (by decide +kernel) rfl h
      have h := sp_onk (i := .iload 4) (by decide +kernel) rfl h
      obtain ⟨hi, h⟩ := sp_iast (by decide +kernel) h
      refine ⟨hi, ?_⟩
      intro w8 ew8
      rw [← ew8] at h
      have hSw8 : SK w8 := by rw [ew8]; exact SK_aS hSw5
      exact h
  · refine ite_t (Classical.not_not.mp hc) ?_
    have h := sp_onk (i := .aload_n 0) (by decide +kernel) rfl h
    have h := sp_iconst (n := 0) (v := 0) (by decide +kernel) (by decide +kernel) h
    have h := sp_bipush (n := 99) (v := 99) (by decide +kernel) (by decide +kernel) h
    obtain ⟨r9, w10, hc, h⟩ := sp_callV (jj := 130) (mj := 210) (n := 2) (v := .ref 147) (args := [.int 99, .int 0]) (ls' := [.ref 147, .int 0, .int 99, pm_dead]) (by decide +kernel) (by decide +kernel) rfl rfl rfl h
    refine ⟨r9, w10, hc, fun x11 er hSw10 => ?_⟩
    subst er
    have h : PS X k 207 149 [.ref 147, .int i1, .int i2, .int x3, u4] [.int x11] w10 r w' := h
    have h := sp_goto (mi := 207) (pc := 149) (off := 10) (t := 159) (by decide +kernel) (by decide) rfl h
    have h := sp_istore (j := 4) (ls' := [.ref 147, .int i1, .int i2, .int x3, .int x11]) (by decide +kernel) (Nat.le_of_ble_eq_true rfl) rfl h
    have h := sp_onk (i := .aload_n 0) (by decide +kernel) rfl h
    have h := sp_getK (jj := 17) (ci := 12) (n := 10) (b := 150) (by decide +kernel) (by decide +kernel) (by decide +kernel) (by decide +kernel) (by decide) hSw10 h
    have h := sp_onk (i := .iload_n 2) (by decide +kernel) rfl h
    have h := sp_iconst (n := 4) (v := 4) (by decide +kernel) (by decide +kernel) h
    rcases sp_icmp_ne (mi := 207) (pc := 167) (off := 8) (t := 175) (by decide +kernel) (by decide) rfl h with ⟨hc, h⟩ | ⟨hc, h⟩
    · refine ite_f hc ?_
      have h := sp_bipush (n := 93) (v := 93) (by decide +kernel) (by decide +kernel) h
      have h := sp_onk (i := .iload_n 3) (by decide +kernel) rfl h
      have h := sp_onk (i := .iadd) (by decide +kernel) rfl h
      have h := sp_onk (i := .iload 4) (by decide +kernel) rfl h
      obtain ⟨hi, h⟩ := sp_iast (by decide +kernel) h
      refine ⟨hi, ?_⟩
      intro w12 ew12
      rw [← ew12] at h
      have hSw12 : SK w12 := by rw [ew12]; exact SK_aS hSw10
      exact h
    · refine ite_t (Classical.not_not.mp hc) ?_
      have h := sp_bipush (n := 84) (v := 84) (by decide +kernel) (by decide +kernel) h
      have h := sp_goto (mi := 207) (pc := 172) (off := 5) (t := 177) (by decide +kernel) (by decide) rfl h
      have h := sp_onk (i := .iload_n 3) (by decide +kernel) rfl h
      have h := sp_onk (i := .iadd) (by decide +kernel) rfl h
      have h := sp_onk (i := .iload 4) (by decide +kernel) rfl h
      obtain ⟨hi, h⟩ := sp_iast (by decide +kernel) h
      refine ⟨hi, ?_⟩
      intro w13 ew13
      rw [← ew13] at h
      have hSw13 : SK w13 := by rw [ew13]; exact SK_aS hSw10
      exact h
set_option maxRecDepth 20000 in
set_option maxHeartbeats 2000000 in
theorem U207_182 {X : pm_X} {k : Nat} {w w' : pm_W} {r : Option Value} {i1 : Int32} {i2 : Int32} {u3 : Value} {u4 : Value} (hS : SK w) (h : PS X (k + 1) 207 182 [.ref 147, .int i1, .int i2, u3, u4] [] w r w') : if i2 = 6 then (∃ (r1 : Option Value) (w2 : pm_W), PS X k 210 0 [.ref 147, .int 0, .int 9, pm_dead] [] w r1 w2 ∧ (∀ x3 : Int32, r1 = some (.int x3) → SK w2 → (aI w2 150 2 ∧ (∀ w4 : pm_W, w4 = aS w2 150 2 x3 → (PS X k 207 201 [.ref 147, .int i1, .int i2, u3, u4] [] w4 r w'))))) else (PS X k 207 201 [.ref 147, .int i1, .int i2, u3, u4] [] w r w') := by
  have h := sp_one (i := .iload_n 2) (by decide +kernel) rfl h
  have h := sp_bipush (n := 6) (v := 6) (by decide +kernel) (by decide +kernel) h
  rcases sp_icmp_ne (mi := 207) (pc := 185) (off := 16) (t := 201) (by decide +kernel) (by decide) rfl h with ⟨hc, h⟩ | ⟨hc, h⟩
  · refine ite_f hc ?_
    exact h
  · refine ite_t (Classical.not_not.mp hc) ?_
    have h := sp_onk (i := .aload_n 0) (by decide +kernel) rfl h
    have h := sp_getK (jj := 17) (ci := 12) (n := 10) (b := 150) (by decide +kernel) (by decide +kernel) (by decide +kernel) (by decide +kernel) (by decide) hS h
    have h := sp_iconst (n := 2) (v := 2) (by decide +kernel) (by decide +kernel) h
    have h := sp_onk (i := .aload_n 0) (by decide +kernel) rfl h
    have h := sp_iconst (n := 0) (v := 0) (by decide +kernel) (by decide +kernel) h
    have h := sp_bipush (n := 9) (v := 9) (by decide +kernel) (by decide +kernel) h
    obtain ⟨r1, w2, hc, h⟩ := sp_callV (jj := 130) (mj := 210) (n := 2) (v := .ref 147) (args := [.int 9, .int 0]) (ls' := [.ref 147, .int 0, .int 9, pm_dead]) (by decide +kernel) (by decide +kernel) rfl rfl rfl h
    refine ⟨r1, w2, hc, fun x3 er hSw2 => ?_⟩
    subst er
    have h : PS X k 207 200 [.ref 147, .int i1, .int i2, u3, u4] [.int x3, .int 2, .ref 150] w2 r w' := h
    obtain ⟨hi, h⟩ := sp_iast (by decide +kernel) h
    refine ⟨hi, ?_⟩
    intro w4 ew4
    rw [← ew4] at h
    have hSw4 : SK w4 := by rw [ew4]; exact SK_aS hSw2
    exact h
set_option maxRecDepth 20000 in
set_option maxHeartbeats 2000000 in
theorem U207_201 {X : pm_X} {k : Nat} {w w' : pm_W} {r : Option Value} {i1 : Int32} {i2 : Int32} {u3 : Value} {u4 : Value} (hS : SK w) (h : PS X (k + 1) 207 201 [.ref 147, .int i1, .int i2, u3, u4] [] w r w') : if i2 = 7 then (∃ (r1 : Option Value) (w2 : pm_W), PS X k 213 0 [.ref 147, .int i1, pm_dead, pm_dead, pm_dead, pm_dead, pm_dead] [] w r1 w2 ∧ (r1 = none → SK w2 → (PS X k 207 212 [.ref 147, .int i1, .int i2, u3, u4] [] w2 r w'))) else (PS X k 207 212 [.ref 147, .int i1, .int i2, u3, u4] [] w r w') := by
  have h := sp_one (i := .iload_n 2) (by decide +kernel) rfl h
  have h := sp_bipush (n := 7) (v := 7) (by decide +kernel) (by decide +kernel) h
  rcases sp_icmp_ne (mi := 207) (pc := 204) (off := 8) (t := 212) (by decide +kernel) (by decide) rfl h with ⟨hc, h⟩ | ⟨hc, h⟩
  · refine ite_f hc ?_
    exact h
  · refine ite_t (Classical.not_not.mp hc) ?_
    have h := sp_onk (i := .aload_n 0) (by decide +kernel) rfl h
    have h := sp_onk (i := .iload_n 1) (by decide +kernel) rfl h
    obtain ⟨r1, w2, hc, h⟩ := sp_callV (jj := 143) (mj := 213) (n := 1) (v := .ref 147) (args := [.int i1]) (ls' := [.ref 147, .int i1, pm_dead, pm_dead, pm_dead, pm_dead, pm_dead]) (by decide +kernel) (by decide +kernel) rfl rfl rfl h
    refine ⟨r1, w2, hc, fun er hSw2 => ?_⟩
    subst er
    have h : PS X k 207 212 [.ref 147, .int i1, .int i2, u3, u4] [] w2 r w' := h
    exact h
set_option maxRecDepth 20000 in
set_option maxHeartbeats 2000000 in
theorem U207_212 {X : pm_X} {k : Nat} {w w' : pm_W} {r : Option Value} {i1 : Int32} {i2 : Int32} {u3 : Value} {u4 : Value} (hS : SK w) (h : PS X (k + 1) 207 212 [.ref 147, .int i1, .int i2, u3, u4] [] w r w') : ∃ (r1 : Option Value) (w2 : pm_W), PS X k 214 0 [.ref 147] [] w r1 w2 ∧ (r1 = none → SK w2 → (r = none ∧ w' = w2)) := by
  have h := sp_one (i := .aload_n 0) (by decide +kernel) rfl h
  obtain ⟨r1, w2, hc, h⟩ := sp_callV (jj := 147) (mj := 214) (n := 0) (v := .ref 147) (args := []) (ls' := [.ref 147]) (by decide +kernel) (by decide +kernel) rfl rfl rfl h
  refine ⟨r1, w2, hc, fun er hSw2 => ?_⟩
  subst er
  have h : PS X k 207 216 [.ref 147, .int i1, .int i2, u3, u4] [] w2 r w' := h
  exact sp_vret (by decide +kernel) h
set_option maxRecDepth 20000 in
set_option maxHeartbeats 2000000 in
theorem U208_0 {X : pm_X} {k : Nat} {w w' : pm_W} {r : Option Value} {p1 : Int32} {p2 : Int32} (hS : SK w) (h : PS X (k + 1) 208 0 [.ref 147, .int p1, .int p2, pm_dead] [] w r w') : if (gI w 147 8) = 0 then (if (gI w 147 5) = 3 then (∃ (r5 : Option Value) (w6 : pm_W), PS X k 199 0 [.int (gI w 147 7), .int p1, .int p2] [] w r5 w6 ∧ (∀ x7 : Int32, r5 = some (.int x7) → SK w6 → (if x7 = 0 then (∃ (r10 : Option Value) (w11 : pm_W), PS X k 209 0 [.ref 147] [] w6 r10 w11 ∧ (r10 = none → SK w11 → (r = some (.int 0) ∧ w' = w11))) else (∃ (r8 : Option Value) (w9 : pm_W), PS X k 201 0 [.ref 147, pm_dead, pm_dead] [] w6 r8 w9 ∧ (r8 = none → SK w9 → (r = some (.int (gI w6 147 7)) ∧ w' = w9)))))) else (∃ (r3 : Option Value) (w4 : pm_W), PS X k 209 0 [.ref 147] [] w r3 w4 ∧ (r3 = none → SK w4 → (r = some (.int 0) ∧ w' = w4)))) else (∃ (r1 : Option Value) (w2 : pm_W), PS X k 209 0 [.ref 147] [] w r1 w2 ∧ (r1 = none → SK w2 → (r = some (.int 0) ∧ w' = w2))) := by
  have h := sp_one (i := .aload_n 0) (by decide +kernel) rfl h
  have h := sp_getI (jj := 112) (ci := 12) (n := 8) (by decide +kernel) (by decide +kernel) (by decide +kernel) hS h
  rcases sp_if_ne (mi := 208) (pc := 4) (off := 23) (t := 27) (by decide +kernel) (by decide) rfl h with ⟨hc, h⟩ | ⟨hc, h⟩
  · refine ite_f hc ?_
    have h := sp_onk (i := .aload_n 0) (by decide +kernel) rfl h
    obtain ⟨r1, w2, hc, h⟩ := sp_callV (jj := 116) (mj := 209) (n := 0) (v := .ref 147) (args := []) (ls' := [.ref 147]) (by decide +kernel) (by decide +kernel) rfl rfl rfl h
    refine ⟨r1, w2, hc, fun er hSw2 => ?_⟩
    subst er
    have h : PS X k 208 31 [.ref 147, .int p1, .int p2, pm_dead] [] w2 r w' := h
    have h := sp_iconst (n := 0) (v := 0) (by decide +kernel) (by decide +kernel) h
    exact sp_iret (by decide +kernel) h
  · refine ite_t (Classical.not_not.mp hc) ?_
    have h := sp_onk (i := .aload_n 0) (by decide +kernel) rfl h
    have h := sp_getI (jj := 93) (ci := 12) (n := 5) (by decide +kernel) (by decide +kernel) (by decide +kernel) hS h
    have h := sp_iconst (n := 3) (v := 3) (by decide +kernel) (by decide +kernel) h
    rcases sp_icmp_ne (mi := 208) (pc := 12) (off := 15) (t := 27) (by decide +kernel) (by decide) rfl h with ⟨hc, h⟩ | ⟨hc, h⟩
    · refine ite_f hc ?_
      have h := sp_onk (i := .aload_n 0) (by decide +kernel) rfl h
      obtain ⟨r3, w4, hc, h⟩ := sp_callV (jj := 116) (mj := 209) (n := 0) (v := .ref 147) (args := []) (ls' := [.ref 147]) (by decide +kernel) (by decide +kernel) rfl rfl rfl h
      refine ⟨r3, w4, hc, fun er hSw4 => ?_⟩
      subst er
      have h : PS X k 208 31 [.ref 147, .int p1, .int p2, pm_dead] [] w4 r w' := h
      have h := sp_iconst (n := 0) (v := 0) (by decide +kernel) (by decide +kernel) h
      exact sp_iret (by decide +kernel) h
    · refine ite_t (Classical.not_not.mp hc) ?_
      have h := sp_onk (i := .aload_n 0) (by decide +kernel) rfl h
      have h := sp_getI (jj := 103) (ci := 12) (n := 7) (by decide +kernel) (by decide +kernel) (by decide +kernel) hS h
      have h := sp_onk (i := .iload_n 1) (by decide +kernel) rfl h
      have h := sp_onk (i := .iload_n 2) (by decide +kernel) rfl h
      obtain ⟨r5, w6, hc, h⟩ := sp_callS (jj := 119) (mj := 199) (n := 3) (args := [.int p2, .int p1, .int (gI w 147 7)]) (ls' := [.int (gI w 147 7), .int p1, .int p2]) (by decide +kernel) (by decide +kernel) (by decide +kernel) rfl rfl rfl h
      refine ⟨r5, w6, hc, fun x7 er hSw6 => ?_⟩
      subst er
      have h : PS X k 208 24 [.ref 147, .int p1, .int p2, pm_dead] [.int x7] w6 r w' := h
      rcases sp_if_ne (mi := 208) (pc := 24) (off := 9) (t := 33) (by decide +kernel) (by decide) rfl h with ⟨hc, h⟩ | ⟨hc, h⟩
      · refine ite_f hc ?_
        have h := sp_onk (i := .aload_n 0) (by decide +kernel) rfl h
        have h := sp_getI (jj := 103) (ci := 12) (n := 7) (by decide +kernel) (by decide +kernel) (by decide +kernel) hSw6 h
        have h := sp_istore_n (j := 3) (ls' := [.ref 147, .int p1, .int p2, .int (gI w6 147 7)]) (by decide +kernel) (Nat.le_of_ble_eq_true rfl) rfl h
        have h := sp_onk (i := .aload_n 0) (by decide +kernel) rfl h
        obtain ⟨r8, w9, hc, h⟩ := sp_callV (jj := 127) (mj := 201) (n := 0) (v := .ref 147) (args := []) (ls' := [.ref 147, pm_dead, pm_dead]) (by decide +kernel) (by decide +kernel) rfl rfl rfl h
        refine ⟨r8, w9, hc, fun er hSw9 => ?_⟩
        subst er
        have h : PS X k 208 42 [.ref 147, .int p1, .int p2, .int (gI w6 147 7)] [] w9 r w' := h
        have h := sp_onk (i := .iload_n 3) (by decide +kernel) rfl h
        exact sp_iret (by decide +kernel) h
      · refine ite_t (Classical.not_not.mp hc) ?_
        have h := sp_onk (i := .aload_n 0) (by decide +kernel) rfl h
        obtain ⟨r10, w11, hc, h⟩ := sp_callV (jj := 116) (mj := 209) (n := 0) (v := .ref 147) (args := []) (ls' := [.ref 147]) (by decide +kernel) (by decide +kernel) rfl rfl rfl h
        refine ⟨r10, w11, hc, fun er hSw11 => ?_⟩
        subst er
        have h : PS X k 208 31 [.ref 147, .int p1, .int p2, pm_dead] [] w11 r w' := h
        have h := sp_iconst (n := 0) (v := 0) (by decide +kernel) (by decide +kernel) h
        exact sp_iret (by decide +kernel) h
set_option maxRecDepth 20000 in
set_option maxHeartbeats 2000000 in
theorem U209_0 {X : pm_X} {k : Nat} {w w' : pm_W} {r : Option Value} (hS : SK w) (h : PS X (k + 1) 209 0 [.ref 147] [] w r w') : if (gI w 147 8) = 0 then (∀ w1 : pm_W, w1 = sI w 147 8 1 → (aI w1 148 3 ∧ (∀ w2 : pm_W, w2 = aS w1 148 3 1 → (aI w2 148 4 ∧ (∀ w3 : pm_W, w3 = aS w2 148 4 (gI w2 147 4) → (r = none ∧ w' = w3)))))) else (r = none ∧ w' = w) := by
  have h := sp_one (i := .aload_n 0) (by decide +kernel) rfl h
  have h := sp_getI (jj := 112) (ci := 12) (n := 8) (by decide +kernel) (by decide +kernel) (by decide +kernel) hS h
  rcases sp_if_eq (mi := 209) (pc := 4) (off := 4) (t := 8) (by decide +kernel) (by decide) rfl h with ⟨hc, h⟩ | ⟨hc, h⟩
  · refine ite_t hc ?_
    have h := sp_onk (i := .aload_n 0) (by decide +kernel) rfl h
    have h := sp_iconst (n := 1) (v := 1) (by decide +kernel) (by decide +kernel) h
    have h := sp_putI (jj := 112) (ci := 12) (n := 8) (ty := .boolean) (by decide +kernel) (by decide +kernel) (by decide +kernel) hS h
    intro w1 ew1
    rw [← ew1] at h
    have hSw1 : SK w1 := by rw [ew1]; exact SK_sI hS
    have h := sp_onk (i := .aload_n 0) (by decide +kernel) rfl h
    have h := sp_getK (jj := 7) (ci := 12) (n := 0) (b := 148) (by decide +kernel) (by decide +kernel) (by decide +kernel) (by decide +kernel) (by decide) hSw1 h
    have h := sp_iconst (n := 3) (v := 3) (by decide +kernel) (by decide +kernel) h
    have h := sp_iconst (n := 1) (v := 1) (by decide +kernel) (by decide +kernel) h
    obtain ⟨hi, h⟩ := sp_iast (by decide +kernel) h
    refine ⟨hi, ?_⟩
    intro w2 ew2
    rw [← ew2] at h
    have hSw2 : SK w2 := by rw [ew2]; exact SK_aS hSw1
    have h := sp_onk (i := .aload_n 0) (by decide +kernel) rfl h
    have h := sp_getK (jj := 7) (ci := 12) (n := 0) (b := 148) (by decide +kernel) (by decide +kernel) (by decide +kernel) (by decide +kernel) (by decide) hSw2 h
    have h := sp_iconst (n := 4) (v := 4) (by decide +kernel) (by decide +kernel) h
    have h := sp_onk (i := .aload_n 0) (by decide +kernel) rfl h
    have h := sp_getI (jj := 90) (ci := 12) (n := 4) (by decide +kernel) (by decide +kernel) (by decide +kernel) hSw2 h
    obtain ⟨hi, h⟩ := sp_iast (by decide +kernel) h
    refine ⟨hi, ?_⟩
    intro w3 ew3
    rw [← ew3] at h
    have hSw3 : SK w3 := by rw [ew3]; exact SK_aS hSw2
    exact sp_vret (by decide +kernel) h
  · refine ite_f hc ?_
    exact sp_vret (by decide +kernel) h
set_option maxRecDepth 20000 in
set_option maxHeartbeats 2000000 in
theorem U210_0 {X : pm_X} {k : Nat} {w w' : pm_W} {r : Option Value} {p1 : Int32} {p2 : Int32} (hS : SK w) (h : PS X (k + 1) 210 0 [.ref 147, .int p1, .int p2, pm_dead] [] w r w') : if (gI w 147 8) = 0 then (if (gI w 147 5) = 1 then (∃ (r3 : Option Value) (w4 : pm_W), PS X k 199 0 [.int (gI w 147 6), .int p1, .int p2] [] w r3 w4 ∧ (∀ x5 : Int32, r3 = some (.int x5) → SK w4 → (if x5 = 0 then (∃ (r11 : Option Value) (w12 : pm_W), PS X k 211 0 [.ref 147, .int 2, .int (gI w4 147 4)] [] w4 r11 w12 ∧ (r11 = none → SK w12 → (∃ (r13 : Option Value) (w14 : pm_W), PS X k 201 0 [.ref 147, pm_dead, pm_dead] [] w12 r13 w14 ∧ (r13 = none → SK w14 → (∃ (r15 : Option Value) (w16 : pm_W), PS X k 199 0 [.int (gI w 147 6), .int p1, .int p2] [] w14 r15 w16 ∧ (∀ x17 : Int32, r15 = some (.int x17) → SK w16 → (if x17 = 0 then (r = some (.int p1) ∧ w' = w16) else (r = some (.int (gI w 147 6)) ∧ w' = w16)))))))) else (∃ (r6 : Option Value) (w7 : pm_W), PS X k 201 0 [.ref 147, pm_dead, pm_dead] [] w4 r6 w7 ∧ (r6 = none → SK w7 → (∃ (r8 : Option Value) (w9 : pm_W), PS X k 199 0 [.int (gI w 147 6), .int p1, .int p2] [] w7 r8 w9 ∧ (∀ x10 : Int32, r8 = some (.int x10) → SK w9 → (if x10 = 0 then (r = some (.int p1) ∧ w' = w9) else (r = some (.int (gI w 147 6)) ∧ w' = w9))))))))) else (∃ (r18 : Option Value) (w19 : pm_W), PS X k 209 0 [.ref 147] [] w r18 w19 ∧ (r18 = none → SK w19 → (r = some (.int p1) ∧ w' = w19)))) else (∃ (r1 : Option Value) (w2 : pm_W), PS X k 209 0 [.ref 147] [] w r1 w2 ∧ (r1 = none → SK w2 → (r = some (.int p1) ∧ w' = w2))) := by
  have h := sp_one (i := .aload_n 0) (by decide +kernel) rfl h
  have h := sp_getI (jj := 112) (ci := 12) (n := 8) (by decide +kernel) (by decide +kernel) (by decide +kernel) hS h
  rcases sp_if_ne (mi := 210) (pc := 4) (off := 11) (t := 15) (by decide +kernel) (by decide) rfl h with ⟨hc, h⟩ | ⟨hc, h⟩
  · refine ite_f hc ?_
    have h := sp_onk (i := .aload_n 0) (by decide +kernel) rfl h
    obtain ⟨r1, w2, hc, h⟩ := sp_callV (jj := 116) (mj := 209) (n := 0) (v := .ref 147) (args := []) (ls' := [.ref 147]) (by decide +kernel) (by decide +kernel) rfl rfl rfl h
    refine ⟨r1, w2, hc, fun er hSw2 => ?_⟩
    subst er
    have h : PS X k 210 19 [.ref 147, .int p1, .int p2, pm_dead] [] w2 r w' := h
    have h := sp_onk (i := .iload_n 1) (by decide +kernel) rfl h
    exact sp_iret (by decide +kernel) h
  · refine ite_t (Classical.not_not.mp hc) ?_
    have h := sp_onk (i := .aload_n 0) (by decide +kernel) rfl h
    have h := sp_getI (jj := 93) (ci := 12) (n := 5) (by decide +kernel) (by decide +kernel) (by decide +kernel) hS h
    have h := sp_iconst (n := 1) (v := 1) (by decide +kernel) (by decide +kernel) h
    rcases sp_icmp_eq (mi := 210) (pc := 12) (off := 9) (t := 21) (by decide +kernel) (by decide) rfl h with ⟨hc, h⟩ | ⟨hc, h⟩
    · refine ite_t hc ?_
      have h := sp_onk (i := .aload_n 0) (by decide +kernel) rfl h
      have h := sp_getI (jj := 109) (ci := 12) (n := 6) (by decide +kernel) (by decide +kernel) (by decide +kernel) hS h
      have h := sp_istore_n (j := 3) (ls' := [.ref 147, .int p1, .int p2, .int (gI w 147 6)]) (by decide +kernel) (Nat.le_of_ble_eq_true rfl) rfl h
      have h := sp_onk (i := .iload_n 3) (by decide +kernel) rfl h
      have h := sp_onk (i := .iload_n 1) (by decide +kernel) rfl h
      have h := sp_onk (i := .iload_n 2) (by decide +kernel) rfl h
      obtain ⟨r3, w4, hc, h⟩ := sp_callS (jj := 119) (mj := 199) (n := 3) (args := [.int p2, .int p1, .int (gI w 147 6)]) (ls' := [.int (gI w 147 6), .int p1, .int p2]) (by decide +kernel) (by decide +kernel) (by decide +kernel) rfl rfl rfl h
      refine ⟨r3, w4, hc, fun x5 er hSw4 => ?_⟩
      subst er
      have h : PS X k 210 32 [.ref 147, .int p1, .int p2, .int (gI w 147 6)] [.int x5] w4 r w' := h
      rcases sp_if_ne (mi := 210) (pc := 32) (off := 12) (t := 44) (by decide +kernel) (by decide) rfl h with ⟨hc, h⟩ | ⟨hc, h⟩
      · refine ite_f hc ?_
        have h := sp_onk (i := .aload_n 0) (by decide +kernel) rfl h
        obtain ⟨r6, w7, hc, h⟩ := sp_callV (jj := 127) (mj := 201) (n := 0) (v := .ref 147) (args := []) (ls' := [.ref 147, pm_dead, pm_dead]) (by decide +kernel) (by decide +kernel) rfl rfl rfl h
        refine ⟨r6, w7, hc, fun er hSw7 => ?_⟩
        subst er
        have h : PS X k 210 48 [.ref 147, .int p1, .int p2, .int (gI w 147 6)] [] w7 r w' := h
        have h := sp_onk (i := .iload_n 3) (by decide +kernel) rfl h
        have h := sp_onk (i := .iload_n 1) (by decide +kernel) rfl h
        have h := sp_onk (i := .iload_n 2) (by decide +kernel) rfl h
        obtain ⟨r8, w9, hc, h⟩ := sp_callS (jj := 119) (mj := 199) (n := 3) (args := [.int p2, .int p1, .int (gI w 147 6)]) (ls' := [.int (gI w 147 6), .int p1, .int p2]) (by decide +kernel) (by decide +kernel) (by decide +kernel) rfl rfl rfl h
        refine ⟨r8, w9, hc, fun x10 er hSw9 => ?_⟩
        subst er
        have h : PS X k 210 54 [.ref 147, .int p1, .int p2, .int (gI w 147 6)] [.int x10] w9 r w' := h
        rcases sp_if_eq (mi := 210) (pc := 54) (off := 7) (t := 61) (by decide +kernel) (by decide) rfl h with ⟨hc, h⟩ | ⟨hc, h⟩
        · refine ite_t hc ?_
          have h := sp_onk (i := .iload_n 1) (by decide +kernel) rfl h
          exact sp_iret (by decide +kernel) h
        · refine ite_f hc ?_
          have h := sp_onk (i := .iload_n 3) (by decide +kernel) rfl h
          have h := sp_goto (mi := 210) (pc := 58) (off := 4) (t := 62) (by decide +kernel) (by decide) rfl h
          exact sp_iret (by decide +kernel) h
      · refine ite_t (Classical.not_not.mp hc) ?_
        have h := sp_onk (i := .aload_n 0) (by decide +kernel) rfl h
        have h := sp_iconst (n := 2) (v := 2) (by decide +kernel) (by decide +kernel) h
        have h := sp_onk (i := .aload_n 0) (by decide +kernel) rfl h
        have h := sp_getI (jj := 90) (ci := 12) (n := 4) (by decide +kernel) (by decide +kernel) (by decide +kernel) hSw4 h
        obtain ⟨r11, w12, hc, h⟩ := sp_callV (jj := 123) (mj := 211) (n := 2) (v := .ref 147) (args := [.int (gI w4 147 4), .int 2]) (ls' := [.ref 147, .int 2, .int (gI w4 147 4)]) (by decide +kernel) (by decide +kernel) rfl rfl rfl h
        refine ⟨r11, w12, hc, fun er hSw12 => ?_⟩
        subst er
        have h : PS X k 210 44 [.ref 147, .int p1, .int p2, .int (gI w 147 6)] [] w12 r w' := h
        have h := sp_onk (i := .aload_n 0) (by decide +kernel) rfl h
        obtain ⟨r13, w14, hc, h⟩ := sp_callV (jj := 127) (mj := 201) (n := 0) (v := .ref 147) (args := []) (ls' := [.ref 147, pm_dead, pm_dead]) (by decide +kernel) (by decide +kernel) rfl rfl rfl h
        refine ⟨r13, w14, hc, fun er hSw14 => ?_⟩
        subst er
        have h : PS X k 210 48 [.ref 147, .int p1, .int p2, .int (gI w 147 6)] [] w14 r w' := h
        have h := sp_onk (i := .iload_n 3) (by decide +kernel) rfl h
        have h := sp_onk (i := .iload_n 1) (by decide +kernel) rfl h
        have h := sp_onk (i := .iload_n 2) (by decide +kernel) rfl h
        obtain ⟨r15, w16, hc, h⟩ := sp_callS (jj := 119) (mj := 199) (n := 3) (args := [.int p2, .int p1, .int (gI w 147 6)]) (ls' := [.int (gI w 147 6), .int p1, .int p2]) (by decide +kernel) (by decide +kernel) (by decide +kernel) rfl rfl rfl h
        refine ⟨r15, w16, hc, fun x17 er hSw16 => ?_⟩
        subst er
        have h : PS X k 210 54 [.ref 147, .int p1, .int p2, .int (gI w 147 6)] [.int x17] w16 r w' := h
        rcases sp_if_eq (mi := 210) (pc := 54) (off := 7) (t := 61) (by decide +kernel) (by decide) rfl h with ⟨hc, h⟩ | ⟨hc, h⟩
        · refine ite_t hc ?_
          have h := sp_onk (i := .iload_n 1) (by decide +kernel) rfl h
          exact sp_iret (by decide +kernel) h
        · refine ite_f hc ?_
          have h := sp_onk (i := .iload_n 3) (by decide +kernel) rfl h
          have h := sp_goto (mi := 210) (pc := 58) (off := 4) (t := 62) (by decide +kernel) (by decide) rfl h
          exact sp_iret (by decide +kernel) h
    · refine ite_f hc ?_
      have h := sp_onk (i := .aload_n 0) (by decide +kernel) rfl h
      obtain ⟨r18, w19, hc, h⟩ := sp_callV (jj := 116) (mj := 209) (n := 0) (v := .ref 147) (args := []) (ls' := [.ref 147]) (by decide +kernel) (by decide +kernel) rfl rfl rfl h
      refine ⟨r18, w19, hc, fun er hSw19 => ?_⟩
      subst er
      have h : PS X k 210 19 [.ref 147, .int p1, .int p2, pm_dead] [] w19 r w' := h
      have h := sp_onk (i := .iload_n 1) (by decide +kernel) rfl h
      exact sp_iret (by decide +kernel) h
set_option maxRecDepth 20000 in
set_option maxHeartbeats 2000000 in
theorem U211_0 {X : pm_X} {k : Nat} {w w' : pm_W} {r : Option Value} {p1 : Int32} {p2 : Int32} (hS : SK w) (h : PS X (k + 1) 211 0 [.ref 147, .int p1, .int p2] [] w r w') : if (gI w 147 8) = 0 then (aI w 148 3 ∧ (if (aG w 148 3) = 0 then (aI w 148 3 ∧ (∀ w1 : pm_W, w1 = aS w 148 3 p1 → (aI w1 148 4 ∧ (∀ w2 : pm_W, w2 = aS w1 148 4 p2 → (r = none ∧ w' = w2))))) else (aI w 148 4 ∧ (if (aG w 148 4) < p2 then (r = none ∧ w' = w) else (aI w 148 4 ∧ (if (aG w 148 4) = p2 then (aI w 148 3 ∧ (if p1 < (aG w 148 3) then (aI w 148 3 ∧ (∀ w5 : pm_W, w5 = aS w 148 3 p1 → (aI w5 148 4 ∧ (∀ w6 : pm_W, w6 = aS w5 148 4 p2 → (r = none ∧ w' = w6))))) else (r = none ∧ w' = w))) else (aI w 148 3 ∧ (∀ w3 : pm_W, w3 = aS w 148 3 p1 → (aI w3 148 4 ∧ (∀ w4 : pm_W, w4 = aS w3 148 4 p2 → (r = none ∧ w' = w4))))))))))) else (r = none ∧ w' = w) := by
  have h := sp_one (i := .aload_n 0) (by decide +kernel) rfl h
  have h := sp_getI (jj := 112) (ci := 12) (n := 8) (by decide +kernel) (by decide +kernel) (by decide +kernel) hS h
  rcases sp_if_ne (mi := 211) (pc := 4) (off := 42) (t := 46) (by decide +kernel) (by decide) rfl h with ⟨hc, h⟩ | ⟨hc, h⟩
  · refine ite_f hc ?_
    exact sp_vret (by decide +kernel) h
  · refine ite_t (Classical.not_not.mp hc) ?_
    have h := sp_onk (i := .aload_n 0) (by decide +kernel) rfl h
    have h := sp_getK (jj := 7) (ci := 12) (n := 0) (b := 148) (by decide +kernel) (by decide +kernel) (by decide +kernel) (by decide +kernel) (by decide) hS h
    have h := sp_iconst (n := 3) (v := 3) (by decide +kernel) (by decide +kernel) h
    obtain ⟨hi, h⟩ := sp_iald (by decide +kernel) h
    refine ⟨hi, ?_⟩
    rcases sp_if_eq (mi := 211) (pc := 13) (off := 34) (t := 47) (by decide +kernel) (by decide) rfl h with ⟨hc, h⟩ | ⟨hc, h⟩
    · refine ite_t hc ?_
      have h := sp_onk (i := .aload_n 0) (by decide +kernel) rfl h
      have h := sp_getK (jj := 7) (ci := 12) (n := 0) (b := 148) (by decide +kernel) (by decide +kernel) (by decide +kernel) (by decide +kernel) (by decide) hS h
      have h := sp_iconst (n := 3) (v := 3) (by decide +kernel) (by decide +kernel) h
      have h := sp_onk (i := .iload_n 1) (by decide +kernel) rfl h
      obtain ⟨hi, h⟩ := sp_iast (by decide +kernel) h
      refine ⟨hi, ?_⟩
      intro w1 ew1
      rw [← ew1] at h
      have hSw1 : SK w1 := by rw [ew1]; exact SK_aS hS
      have h := sp_onk (i := .aload_n 0) (by decide +kernel) rfl h
      have h := sp_getK (jj := 7) (ci := 12) (n := 0) (b := 148) (by decide +kernel) (by decide +kernel) (by decide +kernel) (by decide +kernel) (by decide) hSw1 h
      have h := sp_iconst (n := 4) (v := 4) (by decide +kernel) (by decide +kernel) h
      have h := sp_onk (i := .iload_n 2) (by decide +kernel) rfl h
      obtain ⟨hi, h⟩ := sp_iast (by decide +kernel) h
      refine ⟨hi, ?_⟩
      intro w2 ew2
      rw [← ew2] at h
      have hSw2 : SK w2 := by rw [ew2]; exact SK_aS hSw1
      exact sp_vret (by decide +kernel) h
    · refine ite_f hc ?_
      have h := sp_onk (i := .aload_n 0) (by decide +kernel) rfl h
      have h := sp_getK (jj := 7) (ci := 12) (n := 0) (b := 148) (by decide +kernel) (by decide +kernel) (by decide +kernel) (by decide +kernel) (by decide) hS h
      have h := sp_iconst (n := 4) (v := 4) (by decide +kernel) (by decide +kernel) h
      obtain ⟨hi, h⟩ := sp_iald (by decide +kernel) h
      refine ⟨hi, ?_⟩
      have h := sp_onk (i := .iload_n 2) (by decide +kernel) rfl h
      rcases sp_icmp_lt (mi := 211) (pc := 23) (off := 23) (t := 46) (by decide +kernel) (by decide) rfl h with ⟨hc, h⟩ | ⟨hc, h⟩
      · refine ite_t hc ?_
        exact sp_vret (by decide +kernel) h
      · refine ite_f hc ?_
        have h := sp_onk (i := .aload_n 0) (by decide +kernel) rfl h
        have h := sp_getK (jj := 7) (ci := 12) (n := 0) (b := 148) (by decide +kernel) (by decide +kernel) (by decide +kernel) (by decide +kernel) (by decide) hS h
        have h := sp_iconst (n := 4) (v := 4) (by decide +kernel) (by decide +kernel) h
        obtain ⟨hi, h⟩ := sp_iald (by decide +kernel) h
        refine ⟨hi, ?_⟩
        have h := sp_onk (i := .iload_n 2) (by decide +kernel) rfl h
        rcases sp_icmp_ne (mi := 211) (pc := 33) (off := 14) (t := 47) (by decide +kernel) (by decide) rfl h with ⟨hc, h⟩ | ⟨hc, h⟩
        · refine ite_f hc ?_
          have h := sp_onk (i := .aload_n 0) (by decide +kernel) rfl h
          have h := sp_getK (jj := 7) (ci := 12) (n := 0) (b := 148) (by decide +kernel) (by decide +kernel) (by decide +kernel) (by decide +kernel) (by decide) hS h
          have h := sp_iconst (n := 3) (v := 3) (by decide +kernel) (by decide +kernel) h
          have h := sp_onk (i := .iload_n 1) (by decide +kernel) rfl h
          obtain ⟨hi, h⟩ := sp_iast (by decide +kernel) h
          refine ⟨hi, ?_⟩
          intro w3 ew3
          rw [← ew3] at h
          have hSw3 : SK w3 := by rw [ew3]; exact SK_aS hS
          have h := sp_onk (i := .aload_n 0) (by decide +kernel) rfl h
          have h := sp_getK (jj := 7) (ci := 12) (n := 0) (b := 148) (by decide +kernel) (by decide +kernel) (by decide +kernel) (by decide +kernel) (by decide) hSw3 h
          have h := sp_iconst (n := 4) (v := 4) (by decide +kernel) (by decide +kernel) h
          have h := sp_onk (i := .iload_n 2) (by decide +kernel) rfl h
          obtain ⟨hi, h⟩ := sp_iast (by decide +kernel) h
          refine ⟨hi, ?_⟩
          intro w4 ew4
          rw [← ew4] at h
          have hSw4 : SK w4 := by rw [ew4]; exact SK_aS hSw3
          exact sp_vret (by decide +kernel) h
        · refine ite_t (Classical.not_not.mp hc) ?_
          have h := sp_onk (i := .aload_n 0) (by decide +kernel) rfl h
          have h := sp_getK (jj := 7) (ci := 12) (n := 0) (b := 148) (by decide +kernel) (by decide +kernel) (by decide +kernel) (by decide +kernel) (by decide) hS h
          have h := sp_iconst (n := 3) (v := 3) (by decide +kernel) (by decide +kernel) h
          obtain ⟨hi, h⟩ := sp_iald (by decide +kernel) h
          refine ⟨hi, ?_⟩
          have h := sp_onk (i := .iload_n 1) (by decide +kernel) rfl h
          rcases sp_icmp_gt (mi := 211) (pc := 43) (off := 4) (t := 47) (by decide +kernel) (by decide) rfl h with ⟨hc, h⟩ | ⟨hc, h⟩
          · refine ite_t hc ?_
            have h := sp_onk (i := .aload_n 0) (by decide +kernel) rfl h
            have h := sp_getK (jj := 7) (ci := 12) (n := 0) (b := 148) (by decide +kernel) (by decide +kernel) (by decide +kernel) (by decide +kernel) (by decide) hS h
            have h := sp_iconst (n := 3) (v := 3) (by decide +kernel) (by decide +kernel) h
            have h := sp_onk (i := .iload_n 1) (by decide +kernel) rfl h
            obtain ⟨hi, h⟩ := sp_iast (by decide +kernel) h
            refine ⟨hi, ?_⟩
            intro w5 ew5
            rw [← ew5] at h
            have hSw5 : SK w5 := by rw [ew5]; exact SK_aS hS
            have h := sp_onk (i := .aload_n 0) (by decide +kernel) rfl h
            have h := sp_getK (jj := 7) (ci := 12) (n := 0) (b := 148) (by decide +kernel) (by decide +kernel) (by decide +kernel) (by decide +kernel) (by decide) hSw5 h
            have h := sp_iconst (n := 4) (v := 4) (by decide +kernel) (by decide +kernel) h
            have h := sp_onk (i := .iload_n 2) (by decide +kernel) rfl h
            obtain ⟨hi, h⟩ := sp_iast (by decide +kernel) h
            refine ⟨hi, ?_⟩
            intro w6 ew6
            rw [← ew6] at h
            have hSw6 : SK w6 := by rw [ew6]; exact SK_aS hSw5
            exact sp_vret (by decide +kernel) h
          · refine ite_f hc ?_
            exact sp_vret (by decide +kernel) h
set_option maxRecDepth 20000 in
set_option maxHeartbeats 2000000 in
theorem U212_0 {X : pm_X} {k : Nat} {w w' : pm_W} {r : Option Value} {p1 : Int32} (hS : SK w) (h : PS X (k + 1) 212 0 [.ref 147, .int p1, pm_dead] [] w r w') : if (gI w 147 5) = 1 then (if (gI w 147 6) = p1 then (∃ (r11 : Option Value) (w12 : pm_W), PS X k 211 0 [.ref 147, .int 2, .int (gI w 147 4)] [] w r11 w12 ∧ (r11 = none → SK w12 → (∃ (r13 : Option Value) (w14 : pm_W), PS X k 210 0 [.ref 147, .int 0, .int 8, pm_dead] [] w12 r13 w14 ∧ (∀ x15 : Int32, r13 = some (.int x15) → SK w14 → (if x15 ≤ (gI w14 147 9) then (∀ w16 : pm_W, w16 = sI w14 147 9 (gI w14 147 9) → (r = some (.int x15) ∧ w' = w16)) else (∀ w17 : pm_W, w17 = sI w14 147 9 x15 → (r = some (.int x15) ∧ w' = w17))))))) else (∃ (r6 : Option Value) (w7 : pm_W), PS X k 210 0 [.ref 147, .int 0, .int 8, pm_dead] [] w r6 w7 ∧ (∀ x8 : Int32, r6 = some (.int x8) → SK w7 → (if x8 ≤ (gI w7 147 9) then (∀ w9 : pm_W, w9 = sI w7 147 9 (gI w7 147 9) → (r = some (.int x8) ∧ w' = w9)) else (∀ w10 : pm_W, w10 = sI w7 147 9 x8 → (r = some (.int x8) ∧ w' = w10)))))) else (∃ (r1 : Option Value) (w2 : pm_W), PS X k 210 0 [.ref 147, .int 0, .int 8, pm_dead] [] w r1 w2 ∧ (∀ x3 : Int32, r1 = some (.int x3) → SK w2 → (if x3 ≤ (gI w2 147 9) then (∀ w4 : pm_W, w4 = sI w2 147 9 (gI w2 147 9) → (r = some (.int x3) ∧ w' = w4)) else (∀ w5 : pm_W, w5 = sI w2 147 9 x3 → (r = some (.int x3) ∧ w' = w5))))) := by
  have h := sp_one (i := .aload_n 0) (by decide +kernel) rfl h
  have h := sp_getI (jj := 93) (ci := 12) (n := 5) (by decide +kernel) (by decide +kernel) (by decide +kernel) hS h
  have h := sp_iconst (n := 1) (v := 1) (by decide +kernel) (by decide +kernel) h
  rcases sp_icmp_ne (mi := 212) (pc := 5) (off := 20) (t := 25) (by decide +kernel) (by decide) rfl h with ⟨hc, h⟩ | ⟨hc, h⟩
  · refine ite_f hc ?_
    have h := sp_onk (i := .aload_n 0) (by decide +kernel) rfl h
    have h := sp_iconst (n := 0) (v := 0) (by decide +kernel) (by decide +kernel) h
    have h := sp_bipush (n := 8) (v := 8) (by decide +kernel) (by decide +kernel) h
    obtain ⟨r1, w2, hc, h⟩ := sp_callV (jj := 130) (mj := 210) (n := 2) (v := .ref 147) (args := [.int 8, .int 0]) (ls' := [.ref 147, .int 0, .int 8, pm_dead]) (by decide +kernel) (by decide +kernel) rfl rfl rfl h
    refine ⟨r1, w2, hc, fun x3 er hSw2 => ?_⟩
    subst er
    have h : PS X k 212 32 [.ref 147, .int p1, pm_dead] [.int x3] w2 r w' := h
    have h := sp_istore_n (j := 2) (ls' := [.ref 147, .int p1, .int x3]) (by decide +kernel) (Nat.le_of_ble_eq_true rfl) rfl h
    have h := sp_onk (i := .aload_n 0) (by decide +kernel) rfl h
    have h := sp_onk (i := .iload_n 2) (by decide +kernel) rfl h
    have h := sp_onk (i := .aload_n 0) (by decide +kernel) rfl h
    have h := sp_getI (jj := 134) (ci := 12) (n := 9) (by decide +kernel) (by decide +kernel) (by decide +kernel) hSw2 h
    rcases sp_icmp_le (mi := 212) (pc := 39) (off := 7) (t := 46) (by decide +kernel) (by decide) rfl h with ⟨hc, h⟩ | ⟨hc, h⟩
    · refine ite_t hc ?_
      have h := sp_onk (i := .aload_n 0) (by decide +kernel) rfl h
      have h := sp_getI (jj := 134) (ci := 12) (n := 9) (by decide +kernel) (by decide +kernel) (by decide +kernel) hSw2 h
      have h := sp_putI (jj := 134) (ci := 12) (n := 9) (ty := .int) (by decide +kernel) (by decide +kernel) (by decide +kernel) hSw2 h
      intro w4 ew4
      rw [← ew4] at h
      have hSw4 : SK w4 := by rw [ew4]; exact SK_sI hSw2
      have h := sp_onk (i := .iload_n 2) (by decide +kernel) rfl h
      exact sp_iret (by decide +kernel) h
    · refine ite_f hc ?_
      have h := sp_onk (i := .iload_n 2) (by decide +kernel) rfl h
      have h := sp_goto (mi := 212) (pc := 43) (off := 7) (t := 50) (by decide +kernel) (by decide) rfl h
      have h := sp_putI (jj := 134) (ci := 12) (n := 9) (ty := .int) (by decide +kernel) (by decide +kernel) (by decide +kernel) hSw2 h
      intro w5 ew5
      rw [← ew5] at h
      have hSw5 : SK w5 := by rw [ew5]; exact SK_sI hSw2
      have h := sp_onk (i := .iload_n 2) (by decide +kernel) rfl h
      exact sp_iret (by decide +kernel) h
  · refine ite_t (Classical.not_not.mp hc) ?_
    have h := sp_onk (i := .aload_n 0) (by decide +kernel) rfl h
    have h := sp_getI (jj := 109) (ci := 12) (n := 6) (by decide +kernel) (by decide +kernel) (by decide +kernel) hS h
    have h := sp_onk (i := .iload_n 1) (by decide +kernel) rfl h
    rcases sp_icmp_ne (mi := 212) (pc := 13) (off := 12) (t := 25) (by decide +kernel) (by decide) rfl h with ⟨hc, h⟩ | ⟨hc, h⟩
    · refine ite_f hc ?_
      have h := sp_onk (i := .aload_n 0) (by decide +kernel) rfl h
      have h := sp_iconst (n := 0) (v := 0) (by decide +kernel) (by decide +kernel) h
      have h := sp_bipush (n := 8) (v := 8) (by decide +kernel) (by decide +kernel) h
      obtain ⟨r6, w7, hc, h⟩ := sp_callV (jj := 130) (mj := 210) (n := 2) (v := .ref 147) (args := [.int 8, .int 0]) (ls' := [.ref 147, .int 0, .int 8, pm_dead]) (by decide +kernel) (by decide +kernel) rfl rfl rfl h
      refine ⟨r6, w7, hc, fun x8 er hSw7 => ?_⟩
      subst er
      have h : PS X k 212 32 [.ref 147, .int p1, pm_dead] [.int x8] w7 r w' := h
      have h := sp_istore_n (j := 2) (ls' := [.ref 147, .int p1, .int x8]) (by decide +kernel) (Nat.le_of_ble_eq_true rfl) rfl h
      have h := sp_onk (i := .aload_n 0) (by decide +kernel) rfl h
      have h := sp_onk (i := .iload_n 2) (by decide +kernel) rfl h
      have h := sp_onk (i := .aload_n 0) (by decide +kernel) rfl h
      have h := sp_getI (jj := 134) (ci := 12) (n := 9) (by decide +kernel) (by decide +kernel) (by decide +kernel) hSw7 h
      rcases sp_icmp_le (mi := 212) (pc := 39) (off := 7) (t := 46) (by decide +kernel) (by decide) rfl h with ⟨hc, h⟩ | ⟨hc, h⟩
      · refine ite_t hc ?_
        have h := sp_onk (i := .aload_n 0) (by decide +kernel) rfl h
        have h := sp_getI (jj := 134) (ci := 12) (n := 9) (by decide +kernel) (by decide +kernel) (by decide +kernel) hSw7 h
        have h := sp_putI (jj := 134) (ci := 12) (n := 9) (ty := .int) (by decide +kernel) (by decide +kernel) (by decide +kernel) hSw7 h
        intro w9 ew9
        rw [← ew9] at h
        have hSw9 : SK w9 := by rw [ew9]; exact SK_sI hSw7
        have h := sp_onk (i := .iload_n 2) (by decide +kernel) rfl h
        exact sp_iret (by decide +kernel) h
      · refine ite_f hc ?_
        have h := sp_onk (i := .iload_n 2) (by decide +kernel) rfl h
        have h := sp_goto (mi := 212) (pc := 43) (off := 7) (t := 50) (by decide +kernel) (by decide) rfl h
        have h := sp_putI (jj := 134) (ci := 12) (n := 9) (ty := .int) (by decide +kernel) (by decide +kernel) (by decide +kernel) hSw7 h
        intro w10 ew10
        rw [← ew10] at h
        have hSw10 : SK w10 := by rw [ew10]; exact SK_sI hSw7
        have h := sp_onk (i := .iload_n 2) (by decide +kernel) rfl h
        exact sp_iret (by decide +kernel) h
    · refine ite_t (Classical.not_not.mp hc) ?_
      have h := sp_onk (i := .aload_n 0) (by decide +kernel) rfl h
      have h := sp_iconst (n := 2) (v := 2) (by decide +kernel) (by decide +kernel) h
      have h := sp_onk (i := .aload_n 0) (by decide +kernel) rfl h
      have h := sp_getI (jj := 90) (ci := 12) (n := 4) (by decide +kernel) (by decide +kernel) (by decide +kernel) hS h
      obtain ⟨r11, w12, hc, h⟩ := sp_callV (jj := 123) (mj := 211) (n := 2) (v := .ref 147) (args := [.int (gI w 147 4), .int 2]) (ls' := [.ref 147, .int 2, .int (gI w 147 4)]) (by decide +kernel) (by decide +kernel) rfl rfl rfl h
      refine ⟨r11, w12, hc, fun er hSw12 => ?_⟩
      subst er
      have h : PS X k 212 25 [.ref 147, .int p1, pm_dead] [] w12 r w' := h
      have h := sp_onk (i := .aload_n 0) (by decide +kernel) rfl h
      have h := sp_iconst (n := 0) (v := 0) (by decide +kernel) (by decide +kernel) h
      have h := sp_bipush (n := 8) (v := 8) (by decide +kernel) (by decide +kernel) h
      obtain ⟨r13, w14, hc, h⟩ := sp_callV (jj := 130) (mj := 210) (n := 2) (v := .ref 147) (args := [.int 8, .int 0]) (ls' := [.ref 147, .int 0, .int 8, pm_dead]) (by decide +kernel) (by decide +kernel) rfl rfl rfl h
      refine ⟨r13, w14, hc, fun x15 er hSw14 => ?_⟩
      subst er
      have h : PS X k 212 32 [.ref 147, .int p1, pm_dead] [.int x15] w14 r w' := h
      have h := sp_istore_n (j := 2) (ls' := [.ref 147, .int p1, .int x15]) (by decide +kernel) (Nat.le_of_ble_eq_true rfl) rfl h
      have h := sp_onk (i := .aload_n 0) (by decide +kernel) rfl h
      have h := sp_onk (i := .iload_n 2) (by decide +kernel) rfl h
      have h := sp_onk (i := .aload_n 0) (by decide +kernel) rfl h
      have h := sp_getI (jj := 134) (ci := 12) (n := 9) (by decide +kernel) (by decide +kernel) (by decide +kernel) hSw14 h
      rcases sp_icmp_le (mi := 212) (pc := 39) (off := 7) (t := 46) (by decide +kernel) (by decide) rfl h with ⟨hc, h⟩ | ⟨hc, h⟩
      · refine ite_t hc ?_
        have h := sp_onk (i := .aload_n 0) (by decide +kernel) rfl h
        have h := sp_getI (jj := 134) (ci := 12) (n := 9) (by decide +kernel) (by decide +kernel) (by decide +kernel) hSw14 h
        have h := sp_putI (jj := 134) (ci := 12) (n := 9) (ty := .int) (by decide +kernel) (by decide +kernel) (by decide +kernel) hSw14 h
        intro w16 ew16
        rw [← ew16] at h
        have hSw16 : SK w16 := by rw [ew16]; exact SK_sI hSw14
        have h := sp_onk (i := .iload_n 2) (by decide +kernel) rfl h
        exact sp_iret (by decide +kernel) h
      · refine ite_f hc ?_
        have h := sp_onk (i := .iload_n 2) (by decide +kernel) rfl h
        have h := sp_goto (mi := 212) (pc := 43) (off := 7) (t := 50) (by decide +kernel) (by decide) rfl h
        have h := sp_putI (jj := 134) (ci := 12) (n := 9) (ty := .int) (by decide +kernel) (by decide +kernel) (by decide +kernel) hSw14 h
        intro w17 ew17
        rw [← ew17] at h
        have hSw17 : SK w17 := by rw [ew17]; exact SK_sI hSw14
        have h := sp_onk (i := .iload_n 2) (by decide +kernel) rfl h
        exact sp_iret (by decide +kernel) h
set_option maxRecDepth 20000 in
set_option maxHeartbeats 2000000 in
theorem U213_0 {X : pm_X} {k : Nat} {w w' : pm_W} {r : Option Value} {p1 : Int32} (hS : SK w) (h : PS X (k + 1) 213 0 [.ref 147, .int p1, pm_dead, pm_dead, pm_dead, pm_dead, pm_dead] [] w r w') : aI w 150 1 ∧ (if (aG w 150 1) < 7 then (PS X k 213 17 [.ref 147, .int p1, pm_dead, pm_dead, pm_dead, pm_dead, pm_dead] [] w r w') else (∃ (r1 : Option Value) (w2 : pm_W), PS X k 211 0 [.ref 147, .int 3, .int p1] [] w r1 w2 ∧ (r1 = none → SK w2 → (PS X k 213 17 [.ref 147, .int p1, pm_dead, pm_dead, pm_dead, pm_dead, pm_dead] [] w2 r w')))) := by
  have h := sp_one (i := .aload_n 0) (by decide +kernel) rfl h
  have h := sp_getK (jj := 17) (ci := 12) (n := 10) (b := 150) (by decide +kernel) (by decide +kernel) (by decide +kernel) (by decide +kernel) (by decide) hS h
  have h := sp_iconst (n := 1) (v := 1) (by decide +kernel) (by decide +kernel) h
  obtain ⟨hi, h⟩ := sp_iald (by decide +kernel) h
  refine ⟨hi, ?_⟩
  have h := sp_bipush (n := 7) (v := 7) (by decide +kernel) (by decide +kernel) h
  rcases sp_icmp_lt (mi := 213) (pc := 8) (off := 9) (t := 17) (by decide +kernel) (by decide) rfl h with ⟨hc, h⟩ | ⟨hc, h⟩
  · refine ite_t hc ?_
    exact h
  · refine ite_f hc ?_
    have h := sp_onk (i := .aload_n 0) (by decide +kernel) rfl h
    have h := sp_iconst (n := 3) (v := 3) (by decide +kernel) (by decide +kernel) h
    have h := sp_onk (i := .iload_n 1) (by decide +kernel) rfl h
    obtain ⟨r1, w2, hc, h⟩ := sp_callV (jj := 123) (mj := 211) (n := 2) (v := .ref 147) (args := [.int p1, .int 3]) (ls' := [.ref 147, .int 3, .int p1]) (by decide +kernel) (by decide +kernel) rfl rfl rfl h
    refine ⟨r1, w2, hc, fun er hSw2 => ?_⟩
    subst er
    have h : PS X k 213 17 [.ref 147, .int p1, pm_dead, pm_dead, pm_dead, pm_dead, pm_dead] [] w2 r w' := h
    exact h
set_option maxRecDepth 20000 in
set_option maxHeartbeats 2000000 in
theorem U213_17 {X : pm_X} {k : Nat} {w w' : pm_W} {r : Option Value} {i1 : Int32} (hS : SK w) (h : PS X (k + 1) 213 17 [.ref 147, .int i1, pm_dead, pm_dead, pm_dead, pm_dead, pm_dead] [] w r w') : ∃ (r1 : Option Value) (w2 : pm_W), PS X k 212 0 [.ref 147, .int (-1), pm_dead] [] w r1 w2 ∧ (∀ x3 : Int32, r1 = some (.int x3) → SK w2 → (∃ (r4 : Option Value) (w5 : pm_W), PS X k 212 0 [.ref 147, .int x3, pm_dead] [] w2 r4 w5 ∧ (∀ x6 : Int32, r4 = some (.int x6) → SK w5 → (∃ (r7 : Option Value) (w8 : pm_W), PS X k 210 0 [.ref 147, .int 1, .int 99, pm_dead] [] w5 r7 w8 ∧ (∀ x9 : Int32, r7 = some (.int x9) → SK w8 → (∃ (r10 : Option Value) (w11 : pm_W), PS X k 210 0 [.ref 147, .int 0, .int 99, pm_dead] [] w8 r10 w11 ∧ (∀ x12 : Int32, r10 = some (.int x12) → SK w11 → (aI w11 150 1 ∧ (if 7 ≤ (aG w11 150 1) then (PS X k 213 111 [.ref 147, .int i1, .int x3, .int x6, .int x9, .int x12, pm_dead] [] w11 r w') else (aI w11 150 1 ∧ (aI w11 150 (102 + (4 * (aG w11 150 1))) ∧ (∀ w13 : pm_W, w13 = aS w11 150 (102 + (4 * (aG w11 150 1))) x3 → (aI w13 150 ((102 + (4 * (aG w11 150 1))) + 1) ∧ (∀ w14 : pm_W, w14 = aS w13 150 ((102 + (4 * (aG w11 150 1))) + 1) x6 → (aI w14 150 ((102 + (4 * (aG w11 150 1))) + 2) ∧ (∀ w15 : pm_W, w15 = aS w14 150 ((102 + (4 * (aG w11 150 1))) + 2) x9 → (aI w15 150 ((102 + (4 * (aG w11 150 1))) + 3) ∧ (∀ w16 : pm_W, w16 = aS w15 150 ((102 + (4 * (aG w11 150 1))) + 3) x12 → (PS X k 213 111 [.ref 147, .int i1, .int x3, .int x6, .int x9, .int x12, .int (102 + (4 * (aG w11 150 1)))] [] w16 r w'))))))))))))))))))) := by
  have h := sp_one (i := .aload_n 0) (by decide +kernel) rfl h
  have h := sp_iconst (n := (-1)) (v := (-1)) (by decide +kernel) (by decide +kernel) h
  obtain ⟨r1, w2, hc, h⟩ := sp_callV (jj := 137) (mj := 212) (n := 1) (v := .ref 147) (args := [.int (-1)]) (ls' := [.ref 147, .int (-1), pm_dead]) (by decide +kernel) (by decide +kernel) rfl rfl rfl h
  refine ⟨r1, w2, hc, fun x3 er hSw2 => ?_⟩
  subst er
  have h : PS X k 213 22 [.ref 147, .int i1, pm_dead, pm_dead, pm_dead, pm_dead, pm_dead] [.int x3] w2 r w' := h
  have h := sp_istore_n (j := 2) (ls' := [.ref 147, .int i1, .int x3, pm_dead, pm_dead, pm_dead, pm_dead]) (by decide +kernel) (Nat.le_of_ble_eq_true rfl) rfl h
  have h := sp_onk (i := .aload_n 0) (by decide +kernel) rfl h
  have h := sp_onk (i := .iload_n 2) (by decide +kernel) rfl h
  obtain ⟨r4, w5, hc, h⟩ := sp_callV (jj := 137) (mj := 212) (n := 1) (v := .ref 147) (args := [.int x3]) (ls' := [.ref 147, .int x3, pm_dead]) (by decide +kernel) (by decide +kernel) rfl rfl rfl h
  refine ⟨r4, w5, hc, fun x6 er hSw5 => ?_⟩
  subst er
  have h : PS X k 213 28 [.ref 147, .int i1, .int x3, pm_dead, pm_dead, pm_dead, pm_dead] [.int x6] w5 r w' := h
  have h := sp_istore_n (j := 3) (ls' := [.ref 147, .int i1, .int x3, .int x6, pm_dead, pm_dead, pm_dead]) (by decide +kernel) (Nat.le_of_ble_eq_true rfl) rfl h
  have h := sp_onk (i := .aload_n 0) (by decide +kernel) rfl h
  have h := sp_iconst (n := 1) (v := 1) (by decide +kernel) (by decide +kernel) h
  have h := sp_bipush (n := 99) (v := 99) (by decide +kernel) (by decide +kernel) h
  obtain ⟨r7, w8, hc, h⟩ := sp_callV (jj := 130) (mj := 210) (n := 2) (v := .ref 147) (args := [.int 99, .int 1]) (ls' := [.ref 147, .int 1, .int 99, pm_dead]) (by decide +kernel) (by decide +kernel) rfl rfl rfl h
  refine ⟨r7, w8, hc, fun x9 er hSw8 => ?_⟩
  subst er
  have h : PS X k 213 36 [.ref 147, .int i1, .int x3, .int x6, pm_dead, pm_dead, pm_dead] [.int x9] w8 r w' := h
  have h := sp_istore (j := 4) (ls' := [.ref 147, .int i1, .int x3, .int x6, .int x9, pm_dead, pm_dead]) (by decide +kernel) (Nat.le_of_ble_eq_true rfl) rfl h
  have h := sp_onk (i := .aload_n 0) (by decide +kernel) rfl h
  have h := sp_iconst (n := 0) (v := 0) (by decide +kernel) (by decide +kernel) h
  have h := sp_bipush (n := 99) (v := 99) (by decide +kernel) (by decide +kernel) h
  obtain ⟨r10, w11, hc, h⟩ := sp_callV (jj := 130) (mj := 210) (n := 2) (v := .ref 147) (args := [.int 99, .int 0]) (ls' := [.ref 147, .int 0, .int 99, pm_dead]) (by decide +kernel) (by decide +kernel) rfl rfl rfl h
  refine ⟨r10, w11, hc, fun x12 er hSw11 => ?_⟩
  subst er
  have h : PS X k 213 45 [.ref 147, .int i1, .int x3, .int x6, .int x9, pm_dead, pm_dead] [.int x12] w11 r w' := h
  have h := sp_istore (j := 5) (ls' := [.ref 147, .int i1, .int x3, .int x6, .int x9, .int x12, pm_dead]) (by decide +kernel) (Nat.le_of_ble_eq_true rfl) rfl h
  have h := sp_onk (i := .aload_n 0) (by decide +kernel) rfl h
  have h := sp_getK (jj := 17) (ci := 12) (n := 10) (b := 150) (by decide +kernel) (by decide +kernel) (by decide +kernel) (by decide +kernel) (by decide) hSw11 h
  have h := sp_iconst (n := 1) (v := 1) (by decide +kernel) (by decide +kernel) h
  obtain ⟨hi, h⟩ := sp_iald (by decide +kernel) h
  refine ⟨hi, ?_⟩
  have h := sp_bipush (n := 7) (v := 7) (by decide +kernel) (by decide +kernel) h
  rcases sp_icmp_ge (mi := 213) (pc := 55) (off := 56) (t := 111) (by decide +kernel) (by decide) rfl h with ⟨hc, h⟩ | ⟨hc, h⟩
  · refine ite_t hc ?_
    exact h
  · refine ite_f hc ?_
    have h := sp_bipush (n := 102) (v := 102) (by decide +kernel) (by decide +kernel) h
    have h := sp_iconst (n := 4) (v := 4) (by decide +kernel) (by decide +kernel) h
    have h := sp_onk (i := .aload_n 0) (by decide +kernel) rfl h
    have h := sp_getK (jj := 17) (ci := 12) (n := 10) (b := 150) (by decide +kernel) (by decide +kernel) (by decide +kernel) (by decide +kernel) (by decide) hSw11 h
    have h := sp_iconst (n := 1) (v := 1) (by decide +kernel) (by decide +kernel) h
    obtain ⟨hi, h⟩ := sp_iald (by decide +kernel) h
    refine ⟨hi, ?_⟩
    have h := sp_onk (i := .imul) (by decide +kernel) rfl h
    have h := sp_onk (i := .iadd) (by decide +kernel) rfl h
    have h := sp_istore (j := 6) (ls' := [.ref 147, .int i1, .int x3, .int x6, .int x9, .int x12, .int (102 + (4 * (aG w11 150 1)))]) (by decide +kernel) (Nat.le_of_ble_eq_true rfl) rfl h
    have h := sp_onk (i := .aload_n 0) (by decide +kernel) rfl h
    have h := sp_getK (jj := 17) (ci := 12) (n := 10) (b := 150) (by decide +kernel) (by decide +kernel) (by decide +kernel) (by decide +kernel) (by decide) hSw11 h
    have h := sp_onk (i := .iload 6) (by decide +kernel) rfl h
    have h := sp_onk (i := .iload_n 2) (by decide +kernel) rfl h
    obtain ⟨hi, h⟩ := sp_iast (by decide +kernel) h
    refine ⟨hi, ?_⟩
    intro w13 ew13
    rw [← ew13] at h
    have hSw13 : SK w13 := by rw [ew13]; exact SK_aS hSw11
    have h := sp_onk (i := .aload_n 0) (by decide +kernel) rfl h
    have h := sp_getK (jj := 17) (ci := 12) (n := 10) (b := 150) (by decide +kernel) (by decide +kernel) (by decide +kernel) (by decide +kernel) (by decide) hSw13 h
    have h := sp_onk (i := .iload 6) (by decide +kernel) rfl h
    have h := sp_iconst (n := 1) (v := 1) (by decide +kernel) (by decide +kernel) h
    have h := sp_onk (i := .iadd) (by decide +kernel) rfl h
    have h := sp_onk (i := .iload_n 3) (by decide +kernel) rfl h
    obtain ⟨hi, h⟩ := sp_iast (by decide +kernel) h
    refine ⟨hi, ?_⟩
    intro w14 ew14
    rw [← ew14] at h
    have hSw14 : SK w14 := by rw [ew14]; exact SK_aS hSw13
    have h := sp_onk (i := .aload_n 0) (by decide +kernel) rfl h
    have h := sp_getK (jj := 17) (ci := 12) (n := 10) (b := 150) (by decide +kernel) (by decide +kernel) (by decide +kernel) (by decide +kernel) (by decide) hSw14 h
    have h := sp_onk (i := .iload 6) (by decide +kernel) rfl h
    have h := sp_iconst (n := 2) (v := 2) (by decide +kernel) (by decide +kernel) h
    have h := sp_onk (i := .iadd) (by decide +kernel) rfl h
    have h := sp_onk (i := .iload 4) (by decide +kernel) rfl h
    obtain ⟨hi, h⟩ := sp_iast (by decide +kernel) h
    refine ⟨hi, ?_⟩
    intro w15 ew15
    rw [← ew15] at h
    have hSw15 : SK w15 := by rw [ew15]; exact SK_aS hSw14
    have h := sp_onk (i := .aload_n 0) (by decide +kernel) rfl h
    have h := sp_getK (jj := 17) (ci := 12) (n := 10) (b := 150) (by decide +kernel) (by decide +kernel) (by decide +kernel) (by decide +kernel) (by decide) hSw15 h
    have h := sp_onk (i := .iload 6) (by decide +kernel) rfl h
    have h := sp_iconst (n := 3) (v := 3) (by decide +kernel) (by decide +kernel) h
    have h := sp_onk (i := .iadd) (by decide +kernel) rfl h
    have h := sp_onk (i := .iload 5) (by decide +kernel) rfl h
    obtain ⟨hi, h⟩ := sp_iast (by decide +kernel) h
    refine ⟨hi, ?_⟩
    intro w16 ew16
    rw [← ew16] at h
    have hSw16 : SK w16 := by rw [ew16]; exact SK_aS hSw15
    exact h
set_option maxRecDepth 20000 in
set_option maxHeartbeats 2000000 in
theorem U213_111 {X : pm_X} {k : Nat} {w w' : pm_W} {r : Option Value} {i1 : Int32} {i2 : Int32} {i3 : Int32} {i4 : Int32} {i5 : Int32} {u6 : Value} (hS : SK w) (h : PS X (k + 1) 213 111 [.ref 147, .int i1, .int i2, .int i3, .int i4, .int i5, u6] [] w r w') : aI w 150 1 ∧ (aI w 150 1 ∧ (∀ w1 : pm_W, w1 = aS w 150 1 ((aG w 150 1) + 1) → (r = none ∧ w' = w1))) := by
  have h := sp_one (i := .aload_n 0) (by decide +kernel) rfl h
  have h := sp_getK (jj := 17) (ci := 12) (n := 10) (b := 150) (by decide +kernel) (by decide +kernel) (by decide +kernel) (by decide +kernel) (by decide) hS h
  have h := sp_iconst (n := 1) (v := 1) (by decide +kernel) (by decide +kernel) h
  have h := sp_onk (i := .dup2) (by decide +kernel) rfl h
  obtain ⟨hi, h⟩ := sp_iald (by decide +kernel) h
  refine ⟨hi, ?_⟩
  have h := sp_iconst (n := 1) (v := 1) (by decide +kernel) (by decide +kernel) h
  have h := sp_onk (i := .iadd) (by decide +kernel) rfl h
  obtain ⟨hi, h⟩ := sp_iast (by decide +kernel) h
  refine ⟨hi, ?_⟩
  intro w1 ew1
  rw [← ew1] at h
  have hSw1 : SK w1 := by rw [ew1]; exact SK_aS hS
  exact sp_vret (by decide +kernel) h
set_option maxRecDepth 20000 in
set_option maxHeartbeats 2000000 in
theorem U214_0 {X : pm_X} {k : Nat} {w w' : pm_W} {r : Option Value} (hS : SK w) (h : PS X (k + 1) 214 0 [.ref 147] [] w r w') : if (gI w 147 8) = 0 then (if (gI w 147 5) = 2 then (∃ (r5 : Option Value) (w6 : pm_W), PS X k 201 0 [.ref 147, pm_dead, pm_dead] [] w r5 w6 ∧ (r5 = none → SK w6 → (r = none ∧ w' = w6))) else (∃ (r3 : Option Value) (w4 : pm_W), PS X k 209 0 [.ref 147] [] w r3 w4 ∧ (r3 = none → SK w4 → (r = none ∧ w' = w4)))) else (∃ (r1 : Option Value) (w2 : pm_W), PS X k 209 0 [.ref 147] [] w r1 w2 ∧ (r1 = none → SK w2 → (r = none ∧ w' = w2))) := by
  have h := sp_one (i := .aload_n 0) (by decide +kernel) rfl h
  have h := sp_getI (jj := 112) (ci := 12) (n := 8) (by decide +kernel) (by decide +kernel) (by decide +kernel) hS h
  rcases sp_if_ne (mi := 214) (pc := 4) (off := 18) (t := 22) (by decide +kernel) (by decide) rfl h with ⟨hc, h⟩ | ⟨hc, h⟩
  · refine ite_f hc ?_
    have h := sp_onk (i := .aload_n 0) (by decide +kernel) rfl h
    obtain ⟨r1, w2, hc, h⟩ := sp_callV (jj := 116) (mj := 209) (n := 0) (v := .ref 147) (args := []) (ls' := [.ref 147]) (by decide +kernel) (by decide +kernel) rfl rfl rfl h
    refine ⟨r1, w2, hc, fun er hSw2 => ?_⟩
    subst er
    have h : PS X k 214 26 [.ref 147] [] w2 r w' := h
    exact sp_vret (by decide +kernel) h
  · refine ite_t (Classical.not_not.mp hc) ?_
    have h := sp_onk (i := .aload_n 0) (by decide +kernel) rfl h
    have h := sp_getI (jj := 93) (ci := 12) (n := 5) (by decide +kernel) (by decide +kernel) (by decide +kernel) hS h
    have h := sp_iconst (n := 2) (v := 2) (by decide +kernel) (by decide +kernel) h
    rcases sp_icmp_ne (mi := 214) (pc := 12) (off := 10) (t := 22) (by decide +kernel) (by decide) rfl h with ⟨hc, h⟩ | ⟨hc, h⟩
    · refine ite_f hc ?_
      have h := sp_onk (i := .aload_n 0) (by decide +kernel) rfl h
      obtain ⟨r3, w4, hc, h⟩ := sp_callV (jj := 116) (mj := 209) (n := 0) (v := .ref 147) (args := []) (ls' := [.ref 147]) (by decide +kernel) (by decide +kernel) rfl rfl rfl h
      refine ⟨r3, w4, hc, fun er hSw4 => ?_⟩
      subst er
      have h : PS X k 214 26 [.ref 147] [] w4 r w' := h
      exact sp_vret (by decide +kernel) h
    · refine ite_t (Classical.not_not.mp hc) ?_
      have h := sp_onk (i := .aload_n 0) (by decide +kernel) rfl h
      obtain ⟨r5, w6, hc, h⟩ := sp_callV (jj := 127) (mj := 201) (n := 0) (v := .ref 147) (args := []) (ls' := [.ref 147, pm_dead, pm_dead]) (by decide +kernel) (by decide +kernel) rfl rfl rfl h
      refine ⟨r5, w6, hc, fun er hSw6 => ?_⟩
      subst er
      have h : PS X k 214 19 [.ref 147] [] w6 r w' := h
      have h := sp_goto (mi := 214) (pc := 19) (off := 7) (t := 26) (by decide +kernel) (by decide) rfl h
      exact sp_vret (by decide +kernel) h
set_option maxRecDepth 20000 in
set_option maxHeartbeats 2000000 in
theorem U215_0 {X : pm_X} {k : Nat} {w w' : pm_W} {r : Option Value} (hS : SK w) (h : PS X (k + 1) 215 0 [.ref 147, pm_dead, pm_dead, pm_dead] [] w r w') : aI w 150 0 ∧ (if (aG w 150 0) < 30 then (PS X k 215 22 [.ref 147, .int (gI w 147 4), pm_dead, pm_dead] [] w r w') else (∃ (r1 : Option Value) (w2 : pm_W), PS X k 211 0 [.ref 147, .int 3, .int (gI w 147 4)] [] w r1 w2 ∧ (r1 = none → SK w2 → (PS X k 215 22 [.ref 147, .int (gI w 147 4), pm_dead, pm_dead] [] w2 r w')))) := by
  have h := sp_one (i := .aload_n 0) (by decide +kernel) rfl h
  have h := sp_getI (jj := 90) (ci := 12) (n := 4) (by decide +kernel) (by decide +kernel) (by decide +kernel) hS h
  have h := sp_istore_n (j := 1) (ls' := [.ref 147, .int (gI w 147 4), pm_dead, pm_dead]) (by decide +kernel) (Nat.le_of_ble_eq_true rfl) rfl h
  have h := sp_onk (i := .aload_n 0) (by decide +kernel) rfl h
  have h := sp_getK (jj := 17) (ci := 12) (n := 10) (b := 150) (by decide +kernel) (by decide +kernel) (by decide +kernel) (by decide +kernel) (by decide) hS h
  have h := sp_iconst (n := 0) (v := 0) (by decide +kernel) (by decide +kernel) h
  obtain ⟨hi, h⟩ := sp_iald (by decide +kernel) h
  refine ⟨hi, ?_⟩
  have h := sp_bipush (n := 30) (v := 30) (by decide +kernel) (by decide +kernel) h
  rcases sp_icmp_lt (mi := 215) (pc := 13) (off := 9) (t := 22) (by decide +kernel) (by decide) rfl h with ⟨hc, h⟩ | ⟨hc, h⟩
  · refine ite_t hc ?_
    exact h
  · refine ite_f hc ?_
    have h := sp_onk (i := .aload_n 0) (by decide +kernel) rfl h
    have h := sp_iconst (n := 3) (v := 3) (by decide +kernel) (by decide +kernel) h
    have h := sp_onk (i := .iload_n 1) (by decide +kernel) rfl h
    obtain ⟨r1, w2, hc, h⟩ := sp_callV (jj := 123) (mj := 211) (n := 2) (v := .ref 147) (args := [.int (gI w 147 4), .int 3]) (ls' := [.ref 147, .int 3, .int (gI w 147 4)]) (by decide +kernel) (by decide +kernel) rfl rfl rfl h
    refine ⟨r1, w2, hc, fun er hSw2 => ?_⟩
    subst er
    have h : PS X k 215 22 [.ref 147, .int (gI w 147 4), pm_dead, pm_dead] [] w2 r w' := h
    exact h
set_option maxRecDepth 20000 in
set_option maxHeartbeats 2000000 in
theorem U215_22 {X : pm_X} {k : Nat} {w w' : pm_W} {r : Option Value} {i1 : Int32} (hS : SK w) (h : PS X (k + 1) 215 22 [.ref 147, .int i1, pm_dead, pm_dead] [] w r w') : ∃ (r1 : Option Value) (w2 : pm_W), PS X k 208 0 [.ref 147, .int 11, .int 16, pm_dead] [] w r1 w2 ∧ (∀ x3 : Int32, r1 = some (.int x3) → SK w2 → (PS X k 215 33 [.ref 147, .int i1, .int x3, .int 0] [] w2 r w')) := by
  have h := sp_one (i := .aload_n 0) (by decide +kernel) rfl h
  have h := sp_bipush (n := 11) (v := 11) (by decide +kernel) (by decide +kernel) h
  have h := sp_bipush (n := 16) (v := 16) (by decide +kernel) (by decide +kernel) h
  obtain ⟨r1, w2, hc, h⟩ := sp_callV (jj := 140) (mj := 208) (n := 2) (v := .ref 147) (args := [.int 16, .int 11]) (ls' := [.ref 147, .int 11, .int 16, pm_dead]) (by decide +kernel) (by decide +kernel) rfl rfl rfl h
  refine ⟨r1, w2, hc, fun x3 er hSw2 => ?_⟩
  subst er
  have h : PS X k 215 30 [.ref 147, .int i1, pm_dead, pm_dead] [.int x3] w2 r w' := h
  have h := sp_istore_n (j := 2) (ls' := [.ref 147, .int i1, .int x3, pm_dead]) (by decide +kernel) (Nat.le_of_ble_eq_true rfl) rfl h
  have h := sp_iconst (n := 0) (v := 0) (by decide +kernel) (by decide +kernel) h
  have h := sp_istore_n (j := 3) (ls' := [.ref 147, .int i1, .int x3, .int 0]) (by decide +kernel) (Nat.le_of_ble_eq_true rfl) rfl h
  exact h
set_option maxRecDepth 20000 in
set_option maxHeartbeats 2000000 in
theorem U215_33 {X : pm_X} {k : Nat} {w w' : pm_W} {r : Option Value} {i1 : Int32} {i2 : Int32} {i3 : Int32} (hS : SK w) (h : PS X (k + 1) 215 33 [.ref 147, .int i1, .int i2, .int i3] [] w r w') : if 8 ≤ i3 then (if i2 = 11 then (PS X k 215 64 [.ref 147, .int i1, .int i2, .int i3] [] w r w') else (if i2 = 12 then (PS X k 215 64 [.ref 147, .int i1, .int i2, .int i3] [] w r w') else (PS X k 215 104 [.ref 147, .int i1, .int i2, .int i3] [] w r w'))) else (aI w 151 i3 ∧ (∀ w1 : pm_W, w1 = aS w 151 i3 (-1) → (PS X k 215 33 [.ref 147, .int i1, .int i2, .int (i3 + 1)] [] w1 r w'))) := by
  have h := sp_one (i := .iload_n 3) (by decide +kernel) rfl h
  have h := sp_bipush (n := 8) (v := 8) (by decide +kernel) (by decide +kernel) h
  rcases sp_icmp_ge (mi := 215) (pc := 36) (off := 16) (t := 52) (by decide +kernel) (by decide) rfl h with ⟨hc, h⟩ | ⟨hc, h⟩
  · refine ite_t hc ?_
    have h := sp_onk (i := .iload_n 2) (by decide +kernel) rfl h
    have h := sp_bipush (n := 11) (v := 11) (by decide +kernel) (by decide +kernel) h
    rcases sp_icmp_eq (mi := 215) (pc := 55) (off := 9) (t := 64) (by decide +kernel) (by decide) rfl h with ⟨hc, h⟩ | ⟨hc, h⟩
    · refine ite_t hc ?_
      exact h
    · refine ite_f hc ?_
      have h := sp_onk (i := .iload_n 2) (by decide +kernel) rfl h
      have h := sp_bipush (n := 12) (v := 12) (by decide +kernel) (by decide +kernel) h
      rcases sp_icmp_ne (mi := 215) (pc := 61) (off := 43) (t := 104) (by decide +kernel) (by decide) rfl h with ⟨hc, h⟩ | ⟨hc, h⟩
      · refine ite_f hc ?_
        exact h
      · refine ite_t (Classical.not_not.mp hc) ?_
        exact h
  · refine ite_f hc ?_
    have h := sp_onk (i := .aload_n 0) (by decide +kernel) rfl h
    have h := sp_getK (jj := 20) (ci := 12) (n := 11) (b := 151) (by decide +kernel) (by decide +kernel) (by decide +kernel) (by decide +kernel) (by decide) hS h
    have h := sp_onk (i := .iload_n 3) (by decide +kernel) rfl h
    have h := sp_iconst (n := (-1)) (v := (-1)) (by decide +kernel) (by decide +kernel) h
    obtain ⟨hi, h⟩ := sp_iast (by decide +kernel) h
    refine ⟨hi, ?_⟩
    intro w1 ew1
    rw [← ew1] at h
    have hSw1 : SK w1 := by rw [ew1]; exact SK_aS hS
    have h := sp_iinc (j := 3) (n := 1) (v := 1) (ls' := [.ref 147, .int i1, .int i2, .int (i3 + 1)]) (by decide +kernel) rfl (by decide +kernel) rfl h
    have h := sp_goto (mi := 215) (pc := 49) (off := (-16)) (t := 33) (by decide +kernel) (by decide) rfl h
    exact h
set_option maxRecDepth 20000 in
set_option maxHeartbeats 2000000 in
theorem U215_64 {X : pm_X} {k : Nat} {w w' : pm_W} {r : Option Value} {i1 : Int32} {i2 : Int32} {i3 : Int32} (hS : SK w) (h : PS X (k + 1) 215 64 [.ref 147, .int i1, .int i2, .int i3] [] w r w') : ∃ (r1 : Option Value) (w2 : pm_W), PS X k 212 0 [.ref 147, .int (-1), pm_dead] [] w r1 w2 ∧ (∀ x3 : Int32, r1 = some (.int x3) → SK w2 → (aI w2 151 0 ∧ (∀ w4 : pm_W, w4 = aS w2 151 0 x3 → (aI w4 151 0 ∧ (∃ (r5 : Option Value) (w6 : pm_W), PS X k 212 0 [.ref 147, .int (aG w4 151 0), pm_dead] [] w4 r5 w6 ∧ (∀ x7 : Int32, r5 = some (.int x7) → SK w6 → (aI w6 151 1 ∧ (∀ w8 : pm_W, w8 = aS w6 151 1 x7 → (∃ (r9 : Option Value) (w10 : pm_W), PS X k 210 0 [.ref 147, .int 1, .int 99, pm_dead] [] w8 r9 w10 ∧ (∀ x11 : Int32, r9 = some (.int x11) → SK w10 → (aI w10 151 2 ∧ (∀ w12 : pm_W, w12 = aS w10 151 2 x11 → (PS X k 215 104 [.ref 147, .int i1, .int i2, .int i3] [] w12 r w'))))))))))))) := by
  have h := sp_one (i := .aload_n 0) (by decide +kernel) rfl h
  have h := sp_getK (jj := 20) (ci := 12) (n := 11) (b := 151) (by decide +kernel) (by decide +kernel) (by decide +kernel) (by decide +kernel) (by decide) hS h
  have h := sp_iconst (n := 0) (v := 0) (by decide +kernel) (by decide +kernel) h
  have h := sp_onk (i := .aload_n 0) (by decide +kernel) rfl h
  have h := sp_iconst (n := (-1)) (v := (-1)) (by decide +kernel) (by decide +kernel) h
  obtain ⟨r1, w2, hc, h⟩ := sp_callV (jj := 137) (mj := 212) (n := 1) (v := .ref 147) (args := [.int (-1)]) (ls' := [.ref 147, .int (-1), pm_dead]) (by decide +kernel) (by decide +kernel) rfl rfl rfl h
  refine ⟨r1, w2, hc, fun x3 er hSw2 => ?_⟩
  subst er
  have h : PS X k 215 74 [.ref 147, .int i1, .int i2, .int i3] [.int x3, .int 0, .ref 151] w2 r w' := h
  obtain ⟨hi, h⟩ := sp_iast (by decide +kernel) h
  refine ⟨hi, ?_⟩
  intro w4 ew4
  rw [← ew4] at h
  have hSw4 : SK w4 := by rw [ew4]; exact SK_aS hSw2
  have h := sp_onk (i := .aload_n 0) (by decide +kernel) rfl h
  have h := sp_getK (jj := 20) (ci := 12) (n := 11) (b := 151) (by decide +kernel) (by decide +kernel) (by decide +kernel) (by decide +kernel) (by decide) hSw4 h
  have h := sp_iconst (n := 1) (v := 1) (by decide +kernel) (by decide +kernel) h
  have h := sp_onk (i := .aload_n 0) (by decide +kernel) rfl h
  have h := sp_onk (i := .aload_n 0) (by decide +kernel) rfl h
  have h := sp_getK (jj := 20) (ci := 12) (n := 11) (b := 151) (by decide +kernel) (by decide +kernel) (by decide +kernel) (by decide +kernel) (by decide) hSw4 h
  have h := sp_iconst (n := 0) (v := 0) (by decide +kernel) (by decide +kernel) h
  obtain ⟨hi, h⟩ := sp_iald (by decide +kernel) h
  refine ⟨hi, ?_⟩
  obtain ⟨r5, w6, hc, h⟩ := sp_callV (jj := 137) (mj := 212) (n := 1) (v := .ref 147) (args := [.int (aG w4 151 0)]) (ls' := [.ref 147, .int (aG w4 151 0), pm_dead]) (by decide +kernel) (by decide +kernel) rfl rfl rfl h
  refine ⟨r5, w6, hc, fun x7 er hSw6 => ?_⟩
  subst er
  have h : PS X k 215 90 [.ref 147, .int i1, .int i2, .int i3] [.int x7, .int 1, .ref 151] w6 r w' := h
  obtain ⟨hi, h⟩ := sp_iast (by decide +kernel) h
  refine ⟨hi, ?_⟩
  intro w8 ew8
  rw [← ew8] at h
  have hSw8 : SK w8 := by rw [ew8]; exact SK_aS hSw6
  have h := sp_onk (i := .aload_n 0) (by decide +kernel) rfl h
  have h := sp_getK (jj := 20) (ci := 12) (n := 11) (b := 151) (by decide +kernel) (by decide +kernel) (by decide +kernel) (by decide +kernel) (by decide) hSw8 h
  have h := sp_iconst (n := 2) (v := 2) (by decide +kernel) (by decide +kernel) h
  have h := sp_onk (i := .aload_n 0) (by decide +kernel) rfl h
  have h := sp_iconst (n := 1) (v := 1) (by decide +kernel) (by decide +kernel) h
  have h := sp_bipush (n := 99) (v := 99) (by decide +kernel) (by decide +kernel) h
  obtain ⟨r9, w10, hc, h⟩ := sp_callV (jj := 130) (mj := 210) (n := 2) (v := .ref 147) (args := [.int 99, .int 1]) (ls' := [.ref 147, .int 1, .int 99, pm_dead]) (by decide +kernel) (by decide +kernel) rfl rfl rfl h
  refine ⟨r9, w10, hc, fun x11 er hSw10 => ?_⟩
  subst er
  have h : PS X k 215 103 [.ref 147, .int i1, .int i2, .int i3] [.int x11, .int 2, .ref 151] w10 r w' := h
  obtain ⟨hi, h⟩ := sp_iast (by decide +kernel) h
  refine ⟨hi, ?_⟩
  intro w12 ew12
  rw [← ew12] at h
  have hSw12 : SK w12 := by rw [ew12]; exact SK_aS hSw10
  exact h
set_option maxRecDepth 20000 in
set_option maxHeartbeats 2000000 in
theorem U215_104 {X : pm_X} {k : Nat} {w w' : pm_W} {r : Option Value} {i1 : Int32} {i2 : Int32} {i3 : Int32} (hS : SK w) (h : PS X (k + 1) 215 104 [.ref 147, .int i1, .int i2, .int i3] [] w r w') : if i2 = 13 then (∃ (r1 : Option Value) (w2 : pm_W), PS X k 216 0 [.ref 147, pm_dead, pm_dead, pm_dead, pm_dead] [] w r1 w2 ∧ (r1 = none → SK w2 → (PS X k 215 114 [.ref 147, .int i1, .int i2, .int i3] [] w2 r w'))) else (PS X k 215 114 [.ref 147, .int i1, .int i2, .int i3] [] w r w') := by
  have h := sp_one (i := .iload_n 2) (by decide +kernel) rfl h
  have h := sp_bipush (n := 13) (v := 13) (by decide +kernel) (by decide +kernel) h
  rcases sp_icmp_ne (mi := 215) (pc := 107) (off := 7) (t := 114) (by decide +kernel) (by decide) rfl h with ⟨hc, h⟩ | ⟨hc, h⟩
  · refine ite_f hc ?_
    exact h
  · refine ite_t (Classical.not_not.mp hc) ?_
    have h := sp_onk (i := .aload_n 0) (by decide +kernel) rfl h
    obtain ⟨r1, w2, hc, h⟩ := sp_callV (jj := 150) (mj := 216) (n := 0) (v := .ref 147) (args := []) (ls' := [.ref 147, pm_dead, pm_dead, pm_dead, pm_dead]) (by decide +kernel) (by decide +kernel) rfl rfl rfl h
    refine ⟨r1, w2, hc, fun er hSw2 => ?_⟩
    subst er
    have h : PS X k 215 114 [.ref 147, .int i1, .int i2, .int i3] [] w2 r w' := h
    exact h
set_option maxRecDepth 20000 in
set_option maxHeartbeats 2000000 in
theorem U215_114 {X : pm_X} {k : Nat} {w w' : pm_W} {r : Option Value} {i1 : Int32} {i2 : Int32} {i3 : Int32} (hS : SK w) (h : PS X (k + 1) 215 114 [.ref 147, .int i1, .int i2, .int i3] [] w r w') : if i2 = 14 then (∃ (r1 : Option Value) (w2 : pm_W), PS X k 210 0 [.ref 147, .int 0, .int 29, pm_dead] [] w r1 w2 ∧ (∀ x3 : Int32, r1 = some (.int x3) → SK w2 → (aI w2 151 0 ∧ (∀ w4 : pm_W, w4 = aS w2 151 0 x3 → (PS X k 215 133 [.ref 147, .int i1, .int i2, .int i3] [] w4 r w'))))) else (PS X k 215 133 [.ref 147, .int i1, .int i2, .int i3] [] w r w') := by
  have h := sp_one (i := .iload_n 2) (by decide +kernel) rfl h
  have h := sp_bipush (n := 14) (v := 14) (by decide +kernel) (by decide +kernel) h
  rcases sp_icmp_ne (mi := 215) (pc := 117) (off := 16) (t := 133) (by decide +kernel) (by decide) rfl h with ⟨hc, h⟩ | ⟨hc, h⟩
  · refine ite_f hc ?_
    exact h
  · refine ite_t (Classical.not_not.mp hc) ?_
    have h := sp_onk (i := .aload_n 0) (by decide +kernel) rfl h
    have h := sp_getK (jj := 20) (ci := 12) (n := 11) (b := 151) (by decide +kernel) (by decide +kernel) (by decide +kernel) (by decide +kernel) (by decide) hS h
    have h := sp_iconst (n := 0) (v := 0) (by decide +kernel) (by decide +kernel) h
    have h := sp_onk (i := .aload_n 0) (by decide +kernel) rfl h
    have h := sp_iconst (n := 0) (v := 0) (by decide +kernel) (by decide +kernel) h
    have h := sp_bipush (n := 29) (v := 29) (by decide +kernel) (by decide +kernel) h
    obtain ⟨r1, w2, hc, h⟩ := sp_callV (jj := 130) (mj := 210) (n := 2) (v := .ref 147) (args := [.int 29, .int 0]) (ls' := [.ref 147, .int 0, .int 29, pm_dead]) (by decide +kernel) (by decide +kernel) rfl rfl rfl h
    refine ⟨r1, w2, hc, fun x3 er hSw2 => ?_⟩
    subst er
    have h : PS X k 215 132 [.ref 147, .int i1, .int i2, .int i3] [.int x3, .int 0, .ref 151] w2 r w' := h
    obtain ⟨hi, h⟩ := sp_iast (by decide +kernel) h
    refine ⟨hi, ?_⟩
    intro w4 ew4
    rw [← ew4] at h
    have hSw4 : SK w4 := by rw [ew4]; exact SK_aS hSw2
    exact h
set_option maxRecDepth 20000 in
set_option maxHeartbeats 2000000 in
theorem U215_133 {X : pm_X} {k : Nat} {w w' : pm_W} {r : Option Value} {i1 : Int32} {i2 : Int32} {i3 : Int32} (hS : SK w) (h : PS X (k + 1) 215 133 [.ref 147, .int i1, .int i2, .int i3] [] w r w') : if i2 = 15 then (∃ (r1 : Option Value) (w2 : pm_W), PS X k 212 0 [.ref 147, .int (-1), pm_dead] [] w r1 w2 ∧ (∀ x3 : Int32, r1 = some (.int x3) → SK w2 → (aI w2 151 0 ∧ (∀ w4 : pm_W, w4 = aS w2 151 0 x3 → (PS X k 215 150 [.ref 147, .int i1, .int i2, .int i3] [] w4 r w'))))) else (PS X k 215 150 [.ref 147, .int i1, .int i2, .int i3] [] w r w') := by
  have h := sp_one (i := .iload_n 2) (by decide +kernel) rfl h
  have h := sp_bipush (n := 15) (v := 15) (by decide +kernel) (by decide +kernel) h
  rcases sp_icmp_ne (mi := 215) (pc := 136) (off := 14) (t := 150) (by decide +kernel) (by decide) rfl h with ⟨hc, h⟩ | ⟨hc, h⟩
  · refine ite_f hc ?_
    exact h
  · refine ite_t (Classical.not_not.mp hc) ?_
    have h := sp_onk (i := .aload_n 0) (by decide +kernel) rfl h
    have h := sp_getK (jj := 20) (ci := 12) (n := 11) (b := 151) (by decide +kernel) (by decide +kernel) (by decide +kernel) (by decide +kernel) (by decide) hS h
    have h := sp_iconst (n := 0) (v := 0) (by decide +kernel) (by decide +kernel) h
    have h := sp_onk (i := .aload_n 0) (by decide +kernel) rfl h
    have h := sp_iconst (n := (-1)) (v := (-1)) (by decide +kernel) (by decide +kernel) h
    obtain ⟨r1, w2, hc, h⟩ := sp_callV (jj := 137) (mj := 212) (n := 1) (v := .ref 147) (args := [.int (-1)]) (ls' := [.ref 147, .int (-1), pm_dead]) (by decide +kernel) (by decide +kernel) rfl rfl rfl h
    refine ⟨r1, w2, hc, fun x3 er hSw2 => ?_⟩
    subst er
    have h : PS X k 215 149 [.ref 147, .int i1, .int i2, .int i3] [.int x3, .int 0, .ref 151] w2 r w' := h
    obtain ⟨hi, h⟩ := sp_iast (by decide +kernel) h
    refine ⟨hi, ?_⟩
    intro w4 ew4
    rw [← ew4] at h
    have hSw4 : SK w4 := by rw [ew4]; exact SK_aS hSw2
    exact h
set_option maxRecDepth 20000 in
set_option maxHeartbeats 2000000 in
theorem U215_150 {X : pm_X} {k : Nat} {w w' : pm_W} {r : Option Value} {i1 : Int32} {i2 : Int32} {i3 : Int32} (hS : SK w) (h : PS X (k + 1) 215 150 [.ref 147, .int i1, .int i2, .int i3] [] w r w') : aI w 150 0 ∧ (if 30 ≤ (aG w 150 0) then (PS X k 215 219 [.ref 147, .int i1, .int i2, .int i3] [] w r w') else (aI w 150 0 ∧ (aI w 150 (1 + (9 * (aG w 150 0))) ∧ (∀ w1 : pm_W, w1 = aS w 150 (1 + (9 * (aG w 150 0))) (i2 - 11) → (PS X k 215 183 [.ref 147, .int i1, .int i2, .int 0] [] w1 r w'))))) := by
  have h := sp_one (i := .aload_n 0) (by decide +kernel) rfl h
  have h := sp_getK (jj := 17) (ci := 12) (n := 10) (b := 150) (by decide +kernel) (by decide +kernel) (by decide +kernel) (by decide +kernel) (by decide) hS h
  have h := sp_iconst (n := 0) (v := 0) (by decide +kernel) (by decide +kernel) h
  obtain ⟨hi, h⟩ := sp_iald (by decide +kernel) h
  refine ⟨hi, ?_⟩
  have h := sp_bipush (n := 30) (v := 30) (by decide +kernel) (by decide +kernel) h
  rcases sp_icmp_ge (mi := 215) (pc := 158) (off := 61) (t := 219) (by decide +kernel) (by decide) rfl h with ⟨hc, h⟩ | ⟨hc, h⟩
  · refine ite_t hc ?_
    exact h
  · refine ite_f hc ?_
    have h := sp_onk (i := .aload_n 0) (by decide +kernel) rfl h
    have h := sp_getK (jj := 17) (ci := 12) (n := 10) (b := 150) (by decide +kernel) (by decide +kernel) (by decide +kernel) (by decide +kernel) (by decide) hS h
    have h := sp_iconst (n := 1) (v := 1) (by decide +kernel) (by decide +kernel) h
    have h := sp_bipush (n := 9) (v := 9) (by decide +kernel) (by decide +kernel) h
    have h := sp_onk (i := .aload_n 0) (by decide +kernel) rfl h
    have h := sp_getK (jj := 17) (ci := 12) (n := 10) (b := 150) (by decide +kernel) (by decide +kernel) (by decide +kernel) (by decide +kernel) (by decide) hS h
    have h := sp_iconst (n := 0) (v := 0) (by decide +kernel) (by decide +kernel) h
    obtain ⟨hi, h⟩ := sp_iald (by decide +kernel) h
    refine ⟨hi, ?_⟩
    have h := sp_onk (i := .imul) (by decide +kernel) rfl h
    have h := sp_onk (i := .iadd) (by decide +kernel) rfl h
    have h := sp_onk (i := .iload_n 2) (by decide +kernel) rfl h
    have h := sp_bipush (n := 11) (v := 11) (by decide +kernel) (by decide +kernel) h
    have h := sp_onk (i := .isub) (by decide +kernel) rfl h
    obtain ⟨hi, h⟩ := sp_iast (by decide +kernel) h
    refine ⟨hi, ?_⟩
    intro w1 ew1
    rw [← ew1] at h
    have hSw1 : SK w1 := by rw [ew1]; exact SK_aS hS
    have h := sp_iconst (n := 0) (v := 0) (by decide +kernel) (by decide +kernel) h
    have h := sp_istore_n (j := 3) (ls' := [.ref 147, .int i1, .int i2, .int 0]) (by decide +kernel) (Nat.le_of_ble_eq_true rfl) rfl h
    exact h
set_option maxRecDepth 20000 in
set_option maxHeartbeats 2000000 in
theorem U215_183 {X : pm_X} {k : Nat} {w w' : pm_W} {r : Option Value} {i1 : Int32} {i2 : Int32} {i3 : Int32} (hS : SK w) (h : PS X (k + 1) 215 183 [.ref 147, .int i1, .int i2, .int i3] [] w r w') : if 8 ≤ i3 then (PS X k 215 219 [.ref 147, .int i1, .int i2, .int i3] [] w r w') else (aI w 150 0 ∧ (aI w 151 i3 ∧ (aI w 150 ((2 + (9 * (aG w 150 0))) + i3) ∧ (∀ w1 : pm_W, w1 = aS w 150 ((2 + (9 * (aG w 150 0))) + i3) (aG w 151 i3) → (PS X k 215 183 [.ref 147, .int i1, .int i2, .int (i3 + 1)] [] w1 r w'))))) := by
  have h := sp_one (i := .iload_n 3) (by decide +kernel) rfl h
  have h := sp_bipush (n := 8) (v := 8) (by decide +kernel) (by decide +kernel) h
  rcases sp_icmp_ge (mi := 215) (pc := 186) (off := 33) (t := 219) (by decide +kernel) (by decide) rfl h with ⟨hc, h⟩ | ⟨hc, h⟩
  · refine ite_t hc ?_
    exact h
  · refine ite_f hc ?_
    have h := sp_onk (i := .aload_n 0) (by decide +kernel) rfl h
    have h := sp_getK (jj := 17) (ci := 12) (n := 10) (b := 150) (by decide +kernel) (by decide +kernel) (by decide +kernel) (by decide +kernel) (by decide) hS h
    have h := sp_iconst (n := 2) (v := 2) (by decide +kernel) (by decide +kernel) h
    have h := sp_bipush (n := 9) (v := 9) (by decide +kernel) (by decide +kernel) h
    have h := sp_onk (i := .aload_n 0) (by decide +kernel) rfl h
    have h := sp_getK (jj := 17) (ci := 12) (n := 10) (b := 150) (by decide +kernel) (by decide +kernel) (by decide +kernel) (by decide +kernel) (by decide) hS h
    have h := sp_iconst (n := 0) (v := 0) (by decide +kernel) (by decide +kernel) h
    obtain ⟨hi, h⟩ := sp_iald (by decide +kernel) h
    refine ⟨hi, ?_⟩
    have h := sp_onk (i := .imul) (by decide +kernel) rfl h
    have h := sp_onk (i := .iadd) (by decide +kernel) rfl h
    have h := sp_onk (i := .iload_n 3) (by decide +kernel) rfl h
    have h := sp_onk (i := .iadd) (by decide +kernel) rfl h
    have h := sp_onk (i := .aload_n 0) (by decide +kernel) rfl h
    have h := sp_getK (jj := 20) (ci := 12) (n := 11) (b := 151) (by decide +kernel) (by decide +kernel) (by decide +kernel) (by decide +kernel) (by decide) hS h
    have h := sp_onk (i := .iload_n 3) (by decide +kernel) rfl h
    obtain ⟨hi, h⟩ := sp_iald (by decide +kernel) h
    refine ⟨hi, ?_⟩
    obtain ⟨hi, h⟩ := sp_iast (by decide +kernel) h
    refine ⟨hi, ?_⟩
    intro w1 ew1
    rw [← ew1] at h
    have hSw1 : SK w1 := by rw [ew1]; exact SK_aS hS
    have h := sp_iinc (j := 3) (n := 1) (v := 1) (ls' := [.ref 147, .int i1, .int i2, .int (i3 + 1)]) (by decide +kernel) rfl (by decide +kernel) rfl h
    have h := sp_goto (mi := 215) (pc := 216) (off := (-33)) (t := 183) (by decide +kernel) (by decide) rfl h
    exact h
set_option maxRecDepth 20000 in
set_option maxHeartbeats 2000000 in
theorem U215_219 {X : pm_X} {k : Nat} {w w' : pm_W} {r : Option Value} {i1 : Int32} {i2 : Int32} {i3 : Int32} (hS : SK w) (h : PS X (k + 1) 215 219 [.ref 147, .int i1, .int i2, .int i3] [] w r w') : aI w 150 0 ∧ (aI w 150 0 ∧ (∀ w1 : pm_W, w1 = aS w 150 0 ((aG w 150 0) + 1) → (∃ (r2 : Option Value) (w3 : pm_W), PS X k 214 0 [.ref 147] [] w1 r2 w3 ∧ (r2 = none → SK w3 → (r = none ∧ w' = w3))))) := by
  have h := sp_one (i := .aload_n 0) (by decide +kernel) rfl h
  have h := sp_getK (jj := 17) (ci := 12) (n := 10) (b := 150) (by decide +kernel) (by decide +kernel) (by decide +kernel) (by decide +kernel) (by decide) hS h
  have h := sp_iconst (n := 0) (v := 0) (by decide +kernel) (by decide +kernel) h
  have h := sp_onk (i := .dup2) (by decide +kernel) rfl h
  obtain ⟨hi, h⟩ := sp_iald (by decide +kernel) h
  refine ⟨hi, ?_⟩
  have h := sp_iconst (n := 1) (v := 1) (by decide +kernel) (by decide +kernel) h
  have h := sp_onk (i := .iadd) (by decide +kernel) rfl h
  obtain ⟨hi, h⟩ := sp_iast (by decide +kernel) h
  refine ⟨hi, ?_⟩
  intro w1 ew1
  rw [← ew1] at h
  have hSw1 : SK w1 := by rw [ew1]; exact SK_aS hS
  have h := sp_onk (i := .aload_n 0) (by decide +kernel) rfl h
  obtain ⟨r2, w3, hc, h⟩ := sp_callV (jj := 147) (mj := 214) (n := 0) (v := .ref 147) (args := []) (ls' := [.ref 147]) (by decide +kernel) (by decide +kernel) rfl rfl rfl h
  refine ⟨r2, w3, hc, fun er hSw3 => ?_⟩
  subst er
  have h : PS X k 215 233 [.ref 147, .int i1, .int i2, .int i3] [] w3 r w' := h
  exact sp_vret (by decide +kernel) h
set_option maxRecDepth 20000 in
set_option maxHeartbeats 2000000 in
theorem U216_0 {X : pm_X} {k : Nat} {w w' : pm_W} {r : Option Value} (hS : SK w) (h : PS X (k + 1) 216 0 [.ref 147, pm_dead, pm_dead, pm_dead, pm_dead] [] w r w') : ∃ (r1 : Option Value) (w2 : pm_W), PS X k 210 0 [.ref 147, .int 1, .int 99, pm_dead] [] w r1 w2 ∧ (∀ x3 : Int32, r1 = some (.int x3) → SK w2 → (aI w2 151 0 ∧ (∀ w4 : pm_W, w4 = aS w2 151 0 x3 → (∃ (r5 : Option Value) (w6 : pm_W), PS X k 210 0 [.ref 147, .int 0, .int 99, pm_dead] [] w4 r5 w6 ∧ (∀ x7 : Int32, r5 = some (.int x7) → SK w6 → (aI w6 151 1 ∧ (∀ w8 : pm_W, w8 = aS w6 151 1 x7 → (PS X k 216 30 [.ref 147, .int 0, .int 0, pm_dead, pm_dead] [] w8 r w')))))))) := by
  have h := sp_one (i := .aload_n 0) (by decide +kernel) rfl h
  have h := sp_getK (jj := 20) (ci := 12) (n := 11) (b := 151) (by decide +kernel) (by decide +kernel) (by decide +kernel) (by decide +kernel) (by decide) hS h
  have h := sp_iconst (n := 0) (v := 0) (by decide +kernel) (by decide +kernel) h
  have h := sp_onk (i := .aload_n 0) (by decide +kernel) rfl h
  have h := sp_iconst (n := 1) (v := 1) (by decide +kernel) (by decide +kernel) h
  have h := sp_bipush (n := 99) (v := 99) (by decide +kernel) (by decide +kernel) h
  obtain ⟨r1, w2, hc, h⟩ := sp_callV (jj := 130) (mj := 210) (n := 2) (v := .ref 147) (args := [.int 99, .int 1]) (ls' := [.ref 147, .int 1, .int 99, pm_dead]) (by decide +kernel) (by decide +kernel) rfl rfl rfl h
  refine ⟨r1, w2, hc, fun x3 er hSw2 => ?_⟩
  subst er
  have h : PS X k 216 12 [.ref 147, pm_dead, pm_dead, pm_dead, pm_dead] [.int x3, .int 0, .ref 151] w2 r w' := h
  obtain ⟨hi, h⟩ := sp_iast (by decide +kernel) h
  refine ⟨hi, ?_⟩
  intro w4 ew4
  rw [← ew4] at h
  have hSw4 : SK w4 := by rw [ew4]; exact SK_aS hSw2
  have h := sp_onk (i := .aload_n 0) (by decide +kernel) rfl h
  have h := sp_getK (jj := 20) (ci := 12) (n := 11) (b := 151) (by decide +kernel) (by decide +kernel) (by decide +kernel) (by decide +kernel) (by decide) hSw4 h
  have h := sp_iconst (n := 1) (v := 1) (by decide +kernel) (by decide +kernel) h
  have h := sp_onk (i := .aload_n 0) (by decide +kernel) rfl h
  have h := sp_iconst (n := 0) (v := 0) (by decide +kernel) (by decide +kernel) h
  have h := sp_bipush (n := 99) (v := 99) (by decide +kernel) (by decide +kernel) h
  obtain ⟨r5, w6, hc, h⟩ := sp_callV (jj := 130) (mj := 210) (n := 2) (v := .ref 147) (args := [.int 99, .int 0]) (ls' := [.ref 147, .int 0, .int 99, pm_dead]) (by decide +kernel) (by decide +kernel) rfl rfl rfl h
  refine ⟨r5, w6, hc, fun x7 er hSw6 => ?_⟩
  subst er
  have h : PS X k 216 25 [.ref 147, pm_dead, pm_dead, pm_dead, pm_dead] [.int x7, .int 1, .ref 151] w6 r w' := h
  obtain ⟨hi, h⟩ := sp_iast (by decide +kernel) h
  refine ⟨hi, ?_⟩
  intro w8 ew8
  rw [← ew8] at h
  have hSw8 : SK w8 := by rw [ew8]; exact SK_aS hSw6
  have h := sp_iconst (n := 0) (v := 0) (by decide +kernel) (by decide +kernel) h
  have h := sp_istore_n (j := 1) (ls' := [.ref 147, .int 0, pm_dead, pm_dead, pm_dead]) (by decide +kernel) (Nat.le_of_ble_eq_true rfl) rfl h
  have h := sp_iconst (n := 0) (v := 0) (by decide +kernel) (by decide +kernel) h
  have h := sp_istore_n (j := 2) (ls' := [.ref 147, .int 0, .int 0, pm_dead, pm_dead]) (by decide +kernel) (Nat.le_of_ble_eq_true rfl) rfl h
  exact h
set_option maxRecDepth 20000 in
set_option maxHeartbeats 2000000 in
theorem U216_30 {X : pm_X} {k : Nat} {w w' : pm_W} {r : Option Value} {i1 : Int32} {i2 : Int32} {u3 : Value} {u4 : Value} (hS : SK w) (h : PS X (k + 1) 216 30 [.ref 147, .int i1, .int i2, u3, u4] [] w r w') : if (gI w 147 8) = 0 then (if i1 < 2 then (PS X k 216 50 [.ref 147, .int i1, .int i2, u3, u4] [] w r w') else (if (gI w 147 5) = 1 then (PS X k 216 50 [.ref 147, .int i1, .int i2, u3, u4] [] w r w') else (PS X k 216 163 [.ref 147, .int i1, .int i2, u3, u4] [] w r w'))) else (PS X k 216 163 [.ref 147, .int i1, .int i2, u3, u4] [] w r w') := by
  have h := sp_one (i := .aload_n 0) (by decide +kernel) rfl h
  have h := sp_getI (jj := 112) (ci := 12) (n := 8) (by decide +kernel) (by decide +kernel) (by decide +kernel) hS h
  rcases sp_if_ne (mi := 216) (pc := 34) (off := 129) (t := 163) (by decide +kernel) (by decide) rfl h with ⟨hc, h⟩ | ⟨hc, h⟩
  · refine ite_f hc ?_
    exact h
  · refine ite_t (Classical.not_not.mp hc) ?_
    have h := sp_onk (i := .iload_n 1) (by decide +kernel) rfl h
    have h := sp_iconst (n := 2) (v := 2) (by decide +kernel) (by decide +kernel) h
    rcases sp_icmp_lt (mi := 216) (pc := 39) (off := 11) (t := 50) (by decide +kernel) (by decide) rfl h with ⟨hc, h⟩ | ⟨hc, h⟩
    · refine ite_t hc ?_
      exact h
    · refine ite_f hc ?_
      have h := sp_onk (i := .aload_n 0) (by decide +kernel) rfl h
      have h := sp_getI (jj := 93) (ci := 12) (n := 5) (by decide +kernel) (by decide +kernel) (by decide +kernel) hS h
      have h := sp_iconst (n := 1) (v := 1) (by decide +kernel) (by decide +kernel) h
      rcases sp_icmp_ne (mi := 216) (pc := 47) (off := 116) (t := 163) (by decide +kernel) (by decide) rfl h with ⟨hc, h⟩ | ⟨hc, h⟩
      · refine ite_f hc ?_
        exact h
      · refine ite_t (Classical.not_not.mp hc) ?_
        exact h
set_option maxRecDepth 20000 in
set_option maxHeartbeats 2000000 in
theorem U216_50 {X : pm_X} {k : Nat} {w w' : pm_W} {r : Option Value} {i1 : Int32} {i2 : Int32} {u3 : Value} {u4 : Value} (hS : SK w) (h : PS X (k + 1) 216 50 [.ref 147, .int i1, .int i2, u3, u4] [] w r w') : if i1 < 6 then (PS X k 216 73 [.ref 147, .int i1, .int i2, u3, u4] [] w r w') else (if (gI w 147 5) = 1 then (∃ (r1 : Option Value) (w2 : pm_W), PS X k 211 0 [.ref 147, .int 3, .int (gI w 147 4)] [] w r1 w2 ∧ (r1 = none → SK w2 → (PS X k 216 73 [.ref 147, .int i1, .int i2, u3, u4] [] w2 r w'))) else (PS X k 216 73 [.ref 147, .int i1, .int i2, u3, u4] [] w r w')) := by
  have h := sp_one (i := .iload_n 1) (by decide +kernel) rfl h
  have h := sp_bipush (n := 6) (v := 6) (by decide +kernel) (by decide +kernel) h
  rcases sp_icmp_lt (mi := 216) (pc := 53) (off := 20) (t := 73) (by decide +kernel) (by decide) rfl h with ⟨hc, h⟩ | ⟨hc, h⟩
  · refine ite_t hc ?_
    exact h
  · refine ite_f hc ?_
    have h := sp_onk (i := .aload_n 0) (by decide +kernel) rfl h
    have h := sp_getI (jj := 93) (ci := 12) (n := 5) (by decide +kernel) (by decide +kernel) (by decide +kernel) hS h
    have h := sp_iconst (n := 1) (v := 1) (by decide +kernel) (by decide +kernel) h
    rcases sp_icmp_ne (mi := 216) (pc := 61) (off := 12) (t := 73) (by decide +kernel) (by decide) rfl h with ⟨hc, h⟩ | ⟨hc, h⟩
    · refine ite_f hc ?_
      exact h
    · refine ite_t (Classical.not_not.mp hc) ?_
      have h := sp_onk (i := .aload_n 0) (by decide +kernel) rfl h
      have h := sp_iconst (n := 3) (v := 3) (by decide +kernel) (by decide +kernel) h
      have h := sp_onk (i := .aload_n 0) (by decide +kernel) rfl h
      have h := sp_getI (jj := 90) (ci := 12) (n := 4) (by decide +kernel) (by decide +kernel) (by decide +kernel) hS h
      obtain ⟨r1, w2, hc, h⟩ := sp_callV (jj := 123) (mj := 211) (n := 2) (v := .ref 147) (args := [.int (gI w 147 4), .int 3]) (ls' := [.ref 147, .int 3, .int (gI w 147 4)]) (by decide +kernel) (by decide +kernel) rfl rfl rfl h
      refine ⟨r1, w2, hc, fun er hSw2 => ?_⟩
      subst er
      have h : PS X k 216 73 [.ref 147, .int i1, .int i2, u3, u4] [] w2 r w' := h
      exact h
set_option maxRecDepth 20000 in
set_option maxHeartbeats 2000000 in
theorem U216_73 {X : pm_X} {k : Nat} {w w' : pm_W} {r : Option Value} {i1 : Int32} {i2 : Int32} {u3 : Value} {u4 : Value} (hS : SK w) (h : PS X (k + 1) 216 73 [.ref 147, .int i1, .int i2, u3, u4] [] w r w') : if (gI w 147 5) = 1 then (∃ (r1 : Option Value) (w2 : pm_W), PS X k 199 0 [.int (gI w 147 6), .int 0, .int 8] [] w r1 w2 ∧ (∀ x3 : Int32, r1 = some (.int x3) → SK w2 → (if x3 = 0 then (PS X k 216 110 [.ref 147, .int i1, .int i2, u3, u4] [] w2 r w') else (if ((i2 >>> (gI w2 147 6 &&& 31)) &&& 1) = 1 then (∃ (r4 : Option Value) (w5 : pm_W), PS X k 211 0 [.ref 147, .int 2, .int (gI w2 147 4)] [] w2 r4 w5 ∧ (r4 = none → SK w5 → (PS X k 216 125 [.ref 147, .int i1, .int i2, .int 1, u4] [] w5 r w'))) else (PS X k 216 110 [.ref 147, .int i1, .int i2, u3, u4] [] w2 r w'))))) else (PS X k 216 110 [.ref 147, .int i1, .int i2, u3, u4] [] w r w') := by
  have h := sp_one (i := .aload_n 0) (by decide +kernel) rfl h
  have h := sp_getI (jj := 93) (ci := 12) (n := 5) (by decide +kernel) (by decide +kernel) (by decide +kernel) hS h
  have h := sp_iconst (n := 1) (v := 1) (by decide +kernel) (by decide +kernel) h
  rcases sp_icmp_ne (mi := 216) (pc := 78) (off := 32) (t := 110) (by decide +kernel) (by decide) rfl h with ⟨hc, h⟩ | ⟨hc, h⟩
  · refine ite_f hc ?_
    exact h
  · refine ite_t (Classical.not_not.mp hc) ?_
    have h := sp_onk (i := .aload_n 0) (by decide +kernel) rfl h
    have h := sp_getI (jj := 109) (ci := 12) (n := 6) (by decide +kernel) (by decide +kernel) (by decide +kernel) hS h
    have h := sp_iconst (n := 0) (v := 0) (by decide +kernel) (by decide +kernel) h
    have h := sp_bipush (n := 8) (v := 8) (by decide +kernel) (by decide +kernel) h
    obtain ⟨r1, w2, hc, h⟩ := sp_callS (jj := 119) (mj := 199) (n := 3) (args := [.int 8, .int 0, .int (gI w 147 6)]) (ls' := [.int (gI w 147 6), .int 0, .int 8]) (by decide +kernel) (by decide +kernel) (by decide +kernel) rfl rfl rfl h
    refine ⟨r1, w2, hc, fun x3 er hSw2 => ?_⟩
    subst er
    have h : PS X k 216 91 [.ref 147, .int i1, .int i2, u3, u4] [.int x3] w2 r w' := h
    rcases sp_if_eq (mi := 216) (pc := 91) (off := 19) (t := 110) (by decide +kernel) (by decide) rfl h with ⟨hc, h⟩ | ⟨hc, h⟩
    · refine ite_t hc ?_
      exact h
    · refine ite_f hc ?_
      have h := sp_onk (i := .iload_n 2) (by decide +kernel) rfl h
      have h := sp_onk (i := .aload_n 0) (by decide +kernel) rfl h
      have h := sp_getI (jj := 109) (ci := 12) (n := 6) (by decide +kernel) (by decide +kernel) (by decide +kernel) hSw2 h
      have h := sp_onk (i := .ishr) (by decide +kernel) rfl h
      have h := sp_iconst (n := 1) (v := 1) (by decide +kernel) (by decide +kernel) h
      have h := sp_onk (i := .iand) (by decide +kernel) rfl h
      have h := sp_iconst (n := 1) (v := 1) (by decide +kernel) (by decide +kernel) h
      rcases sp_icmp_ne (mi := 216) (pc := 103) (off := 7) (t := 110) (by decide +kernel) (by decide) rfl h with ⟨hc, h⟩ | ⟨hc, h⟩
      · refine ite_f hc ?_
        exact h
      · refine ite_t (Classical.not_not.mp hc) ?_
        have h := sp_iconst (n := 1) (v := 1) (by decide +kernel) (by decide +kernel) h
        have h := sp_goto (mi := 216) (pc := 107) (off := 4) (t := 111) (by decide +kernel) (by decide) rfl h
        have h := sp_istore_n (j := 3) (ls' := [.ref 147, .int i1, .int i2, .int 1, u4]) (by decide +kernel) (Nat.le_of_ble_eq_true rfl) rfl h
        have h := sp_onk (i := .iload_n 3) (by decide +kernel) rfl h
        rcases sp_if_eq (mi := 216) (pc := 113) (off := 12) (t := 125) (by decide +kernel) (by decide) rfl h with ⟨hc, h⟩ | ⟨hc, h⟩
        case inl => exact absurd hc (by decide +kernel)
        have h := sp_onk (i := .aload_n 0) (by decide +kernel) rfl h
        have h := sp_iconst (n := 2) (v := 2) (by decide +kernel) (by decide +kernel) h
        have h := sp_onk (i := .aload_n 0) (by decide +kernel) rfl h
        have h := sp_getI (jj := 90) (ci := 12) (n := 4) (by decide +kernel) (by decide +kernel) (by decide +kernel) hSw2 h
        obtain ⟨r4, w5, hc, h⟩ := sp_callV (jj := 123) (mj := 211) (n := 2) (v := .ref 147) (args := [.int (gI w2 147 4), .int 2]) (ls' := [.ref 147, .int 2, .int (gI w2 147 4)]) (by decide +kernel) (by decide +kernel) rfl rfl rfl h
        refine ⟨r4, w5, hc, fun er hSw5 => ?_⟩
        subst er
        have h : PS X k 216 125 [.ref 147, .int i1, .int i2, .int 1, u4] [] w5 r w' := h
        exact h
set_option maxRecDepth 20000 in
set_option maxHeartbeats 2000000 in
theorem U216_110 {X : pm_X} {k : Nat} {w w' : pm_W} {r : Option Value} {i1 : Int32} {i2 : Int32} {u3 : Value} {u4 : Value} (hS : SK w) (h : PS X (k + 1) 216 110 [.ref 147, .int i1, .int i2, u3, u4] [] w r w') : PS X k 216 125 [.ref 147, .int i1, .int i2, .int 0, u4] [] w r w' := by
  have h := sp_iconst1 (n := 0) (v := 0) (by decide +kernel) (by decide +kernel) h
  have h := sp_istore_n (j := 3) (ls' := [.ref 147, .int i1, .int i2, .int 0, u4]) (by decide +kernel) (Nat.le_of_ble_eq_true rfl) rfl h
  have h := sp_onk (i := .iload_n 3) (by decide +kernel) rfl h
  rcases sp_if_eq (mi := 216) (pc := 113) (off := 12) (t := 125) (by decide +kernel) (by decide) rfl h with ⟨hc, h⟩ | ⟨hc, h⟩
  case inr => exact absurd (by decide +kernel) hc
  exact h
set_option maxRecDepth 20000 in
set_option maxHeartbeats 2000000 in
theorem U216_125 {X : pm_X} {k : Nat} {w w' : pm_W} {r : Option Value} {i1 : Int32} {i2 : Int32} {i3 : Int32} {u4 : Value} (hS : SK w) (h : PS X (k + 1) 216 125 [.ref 147, .int i1, .int i2, .int i3, u4] [] w r w') : ∃ (r1 : Option Value) (w2 : pm_W), PS X k 210 0 [.ref 147, .int 0, .int 8, pm_dead] [] w r1 w2 ∧ (∀ x3 : Int32, r1 = some (.int x3) → SK w2 → (if 6 ≤ i1 then (PS X k 216 157 [.ref 147, .int i1, .int (i2 ||| (1 <<< (x3 &&& 31))), .int i3, .int x3] [] w2 r w') else (aI w2 151 (2 + i1) ∧ (∀ w4 : pm_W, w4 = aS w2 151 (2 + i1) x3 → (PS X k 216 157 [.ref 147, .int i1, .int (i2 ||| (1 <<< (x3 &&& 31))), .int i3, .int x3] [] w4 r w'))))) := by
  have h := sp_one (i := .aload_n 0) (by decide +kernel) rfl h
  have h := sp_iconst (n := 0) (v := 0) (by decide +kernel) (by decide +kernel) h
  have h := sp_bipush (n := 8) (v := 8) (by decide +kernel) (by decide +kernel) h
  obtain ⟨r1, w2, hc, h⟩ := sp_callV (jj := 130) (mj := 210) (n := 2) (v := .ref 147) (args := [.int 8, .int 0]) (ls' := [.ref 147, .int 0, .int 8, pm_dead]) (by decide +kernel) (by decide +kernel) rfl rfl rfl h
  refine ⟨r1, w2, hc, fun x3 er hSw2 => ?_⟩
  subst er
  have h : PS X k 216 132 [.ref 147, .int i1, .int i2, .int i3, u4] [.int x3] w2 r w' := h
  have h := sp_istore (j := 4) (ls' := [.ref 147, .int i1, .int i2, .int i3, .int x3]) (by decide +kernel) (Nat.le_of_ble_eq_true rfl) rfl h
  have h := sp_onk (i := .iload_n 2) (by decide +kernel) rfl h
  have h := sp_iconst (n := 1) (v := 1) (by decide +kernel) (by decide +kernel) h
  have h := sp_onk (i := .iload 4) (by decide +kernel) rfl h
  have h := sp_onk (i := .ishl) (by decide +kernel) rfl h
  have h := sp_onk (i := .ior) (by decide +kernel) rfl h
  have h := sp_istore_n (j := 2) (ls' := [.ref 147, .int i1, .int (i2 ||| (1 <<< (x3 &&& 31))), .int i3, .int x3]) (by decide +kernel) (Nat.le_of_ble_eq_true rfl) rfl h
  have h := sp_onk (i := .iload_n 1) (by decide +kernel) rfl h
  have h := sp_bipush (n := 6) (v := 6) (by decide +kernel) (by decide +kernel) h
  rcases sp_icmp_ge (mi := 216) (pc := 144) (off := 13) (t := 157) (by decide +kernel) (by decide) rfl h with ⟨hc, h⟩ | ⟨hc, h⟩
  · refine ite_t hc ?_
    exact h
  · refine ite_f hc ?_
    have h := sp_onk (i := .aload_n 0) (by decide +kernel) rfl h
    have h := sp_getK (jj := 20) (ci := 12) (n := 11) (b := 151) (by decide +kernel) (by decide +kernel) (by decide +kernel) (by decide +kernel) (by decide) hSw2 h
    have h := sp_iconst (n := 2) (v := 2) (by decide +kernel) (by decide +kernel) h
    have h := sp_onk (i := .iload_n 1) (by decide +kernel) rfl h
    have h := sp_onk (i := .iadd) (by decide +kernel) rfl h
    have h := sp_onk (i := .iload 4) (by decide +kernel) rfl h
    obtain ⟨hi, h⟩ := sp_iast (by decide +kernel) h
    refine ⟨hi, ?_⟩
    intro w4 ew4
    rw [← ew4] at h
    have hSw4 : SK w4 := by rw [ew4]; exact SK_aS hSw2
    exact h
set_option maxRecDepth 20000 in
set_option maxHeartbeats 2000000 in
theorem U216_157 {X : pm_X} {k : Nat} {w w' : pm_W} {r : Option Value} {i1 : Int32} {i2 : Int32} {i3 : Int32} {i4 : Int32} (hS : SK w) (h : PS X (k + 1) 216 157 [.ref 147, .int i1, .int i2, .int i3, .int i4] [] w r w') : PS X k 216 30 [.ref 147, .int (i1 + 1), .int i2, .int i3, .int i4] [] w r w' := by
  have h := sp_iinc1 (j := 1) (n := 1) (v := 1) (ls' := [.ref 147, .int (i1 + 1), .int i2, .int i3, .int i4]) (by decide +kernel) rfl (by decide +kernel) rfl h
  have h := sp_goto (mi := 216) (pc := 160) (off := (-130)) (t := 30) (by decide +kernel) (by decide) rfl h
  exact h
set_option maxRecDepth 20000 in
set_option maxHeartbeats 2000000 in
theorem U216_163 {X : pm_X} {k : Nat} {w w' : pm_W} {r : Option Value} {i1 : Int32} {i2 : Int32} {u3 : Value} {u4 : Value} (hS : SK w) (h : PS X (k + 1) 216 163 [.ref 147, .int i1, .int i2, u3, u4] [] w r w') : r = none ∧ w' = w := by
  exact sp_vret (by decide +kernel) h
