set_option maxRecDepth 20000 in
set_option maxHeartbeats 2000000 in
theorem U74_0 {X : pm_X} {k : Nat} {w w' : pm_W} {r : Option Value} {a : Nat} {q1 : Nat} (hS : SK w) (h : PS X (k + 1) 74 0 [.ref a, .ref q1] [] w r w') : ∀ w1 : pm_W, w1 = sR w a 0 q1 → (∀ w2 : pm_W, w2 = sI w1 a 1 0 → (∀ w3 : pm_W, w3 = sI w2 a 2 0 → (∃ (r4 : Option Value) (w5 : pm_W), PS X k 20 0 [.ref (gR w3 a 3), .int 0, pm_dead, pm_dead] [] w3 r4 w5 ∧ (r4 = none → SK w5 → (r = none ∧ w' = w5))))) := by
  have h := sp_one (i := .aload_n 0) (by decide +kernel) rfl h
  have h := sp_onk (i := .aload_n 1) (by decide +kernel) rfl h
  have h := sp_putR (jj := 12) (ci := 7) (n := 0) (ty := .object "RingVillage$Village") (by decide +kernel) (by decide +kernel) (by decide +kernel) rfl hS h
  intro w1 ew1
  rw [← ew1] at h
  have hSw1 : SK w1 := by rw [ew1]; exact SK_sR hS
  have h := sp_onk (i := .aload_n 0) (by decide +kernel) rfl h
  have h := sp_iconst (n := 0) (v := 0) (by decide +kernel) (by decide +kernel) h
  have h := sp_putI (jj := 28) (ci := 7) (n := 1) (ty := .int) (by decide +kernel) (by decide +kernel) (by decide +kernel) hSw1 h
  intro w2 ew2
  rw [← ew2] at h
  have hSw2 : SK w2 := by rw [ew2]; exact SK_sI hSw1
  have h := sp_onk (i := .aload_n 0) (by decide +kernel) rfl h
  have h := sp_iconst (n := 0) (v := 0) (by decide +kernel) (by decide +kernel) h
  have h := sp_putI (jj := 32) (ci := 7) (n := 2) (ty := .int) (by decide +kernel) (by decide +kernel) (by decide +kernel) hSw2 h
  intro w3 ew3
  rw [← ew3] at h
  have hSw3 : SK w3 := by rw [ew3]; exact SK_sI hSw2
  have h := sp_onk (i := .aload_n 0) (by decide +kernel) rfl h
  have h := sp_getR (jj := 18) (ci := 7) (n := 3) (by decide +kernel) (by decide +kernel) (by decide +kernel) hSw3 h
  have h := sp_iconst (n := 0) (v := 0) (by decide +kernel) (by decide +kernel) h
  obtain ⟨r4, w5, hc, h⟩ := sp_callS (jj := 35) (mj := 20) (n := 2) (args := [.int 0, .ref (gR w3 a 3)]) (ls' := [.ref (gR w3 a 3), .int 0, pm_dead, pm_dead]) (by decide +kernel) (by decide +kernel) (by decide +kernel) rfl rfl rfl h
  refine ⟨r4, w5, hc, fun er hSw5 => ?_⟩
  subst er
  have h : PS X k 74 23 [.ref a, .ref q1] [] w5 r w' := h
  exact sp_vret (by decide +kernel) h
set_option maxRecDepth 20000 in
set_option maxHeartbeats 2000000 in
theorem U75_0 {X : pm_X} {k : Nat} {w w' : pm_W} {r : Option Value} {a : Nat} {q1 : Nat} {p2 : Int32} (hS : SK w) (h : PS X (k + 1) 75 0 [.ref a, .ref q1, .int p2, pm_dead, pm_dead, pm_dead] [] w r w') : ∃ (r1 : Option Value) (w2 : pm_W), PS X k 68 0 [.ref q1, .int p2, .int 1] [] w r1 w2 ∧ (∀ x3 : Int32, r1 = some (.int x3) → SK w2 → (∃ (r4 : Option Value) (w5 : pm_W), PS X k 68 0 [.ref q1, .int p2, .int 2] [] w2 r4 w5 ∧ (∀ x6 : Int32, r4 = some (.int x6) → SK w5 → (∃ (r7 : Option Value) (w8 : pm_W), PS X k 68 0 [.ref q1, .int p2, .int 3] [] w5 r7 w8 ∧ (∀ x9 : Int32, r7 = some (.int x9) → SK w8 → (∃ (r10 : Option Value) (w11 : pm_W), PS X k 68 0 [.ref q1, .int p2, .int 0] [] w8 r10 w11 ∧ (∀ x12 : Int32, r10 = some (.int x12) → SK w11 → (if x12 = 0 then (∃ (r13 : Option Value) (w14 : pm_W), PS X k 76 0 [.ref a, .int x3, .int x6, .int x9] [] w11 r13 w14 ∧ (∀ x15 : Int32, r13 = some (.int x15) → SK w14 → (r = some (.int x15) ∧ w' = w14))) else (if x12 = 1 then (∃ (r16 : Option Value) (w17 : pm_W), PS X k 78 0 [.ref a, .int x3, .int x6, .int x9] [] w11 r16 w17 ∧ (∀ x18 : Int32, r16 = some (.int x18) → SK w17 → (r = some (.int x18) ∧ w' = w17))) else (if x12 = 2 then (∃ (r19 : Option Value) (w20 : pm_W), PS X k 79 0 [.ref a, .ref q1, .int p2, pm_dead, pm_dead, pm_dead] [] w11 r19 w20 ∧ (∀ x21 : Int32, r19 = some (.int x21) → SK w20 → (r = some (.int x21) ∧ w' = w20))) else (if x12 = 3 then (∃ (r22 : Option Value) (w23 : pm_W), PS X k 82 0 [.ref a, .int x3] [] w11 r22 w23 ∧ (∀ x24 : Int32, r22 = some (.int x24) → SK w23 → (r = some (.int x24) ∧ w' = w23))) else (if x12 = 4 then (∃ (r25 : Option Value) (w26 : pm_W), PS X k 86 0 [.ref a, .int x3, pm_dead] [] w11 r25 w26 ∧ (∀ x27 : Int32, r25 = some (.int x27) → SK w26 → (r = some (.int x27) ∧ w' = w26))) else (∃ (r28 : Option Value) (w29 : pm_W), PS X k 90 0 [.ref a, pm_dead] [] w11 r28 w29 ∧ (∀ x30 : Int32, r28 = some (.int x30) → SK w29 → (r = some (.int x30) ∧ w' = w29))))))))))))))) := by
  have h := sp_one (i := .aload_n 1) (by decide +kernel) rfl h
  have h := sp_onk (i := .iload_n 2) (by decide +kernel) rfl h
  have h := sp_iconst (n := 1) (v := 1) (by decide +kernel) (by decide +kernel) h
  obtain ⟨r1, w2, hc, h⟩ := sp_callV (jj := 59) (mj := 68) (n := 2) (v := .ref q1) (args := [.int 1, .int p2]) (ls' := [.ref q1, .int p2, .int 1]) (by decide +kernel) (by decide +kernel) rfl rfl rfl h
  refine ⟨r1, w2, hc, fun x3 er hSw2 => ?_⟩
  subst er
  have h : PS X k 75 6 [.ref a, .ref q1, .int p2, pm_dead, pm_dead, pm_dead] [.int x3] w2 r w' := h
  have h := sp_istore_n (j := 3) (ls' := [.ref a, .ref q1, .int p2, .int x3, pm_dead, pm_dead]) (by decide +kernel) (Nat.le_of_ble_eq_true rfl) rfl h
  have h := sp_onk (i := .aload_n 1) (by decide +kernel) rfl h
  have h := sp_onk (i := .iload_n 2) (by decide +kernel) rfl h
  have h := sp_iconst (n := 2) (v := 2) (by decide +kernel) (by decide +kernel) h
  obtain ⟨r4, w5, hc, h⟩ := sp_callV (jj := 59) (mj := 68) (n := 2) (v := .ref q1) (args := [.int 2, .int p2]) (ls' := [.ref q1, .int p2, .int 2]) (by decide +kernel) (by decide +kernel) rfl rfl rfl h
  refine ⟨r4, w5, hc, fun x6 er hSw5 => ?_⟩
  subst er
  have h : PS X k 75 13 [.ref a, .ref q1, .int p2, .int x3, pm_dead, pm_dead] [.int x6] w5 r w' := h
  have h := sp_istore (j := 4) (ls' := [.ref a, .ref q1, .int p2, .int x3, .int x6, pm_dead]) (by decide +kernel) (Nat.le_of_ble_eq_true rfl) rfl h
  have h := sp_onk (i := .aload_n 1) (by decide +kernel) rfl h
  have h := sp_onk (i := .iload_n 2) (by decide +kernel) rfl h
  have h := sp_iconst (n := 3) (v := 3) (by decide +kernel) (by decide +kernel) h
  obtain ⟨r7, w8, hc, h⟩ := sp_callV (jj := 59) (mj := 68) (n := 2) (v := .ref q1) (args := [.int 3, .int p2]) (ls' := [.ref q1, .int p2, .int 3]) (by decide +kernel) (by decide +kernel) rfl rfl rfl h
  refine ⟨r7, w8, hc, fun x9 er hSw8 => ?_⟩
  subst er
  have h : PS X k 75 21 [.ref a, .ref q1, .int p2, .int x3, .int x6, pm_dead] [.int x9] w8 r w' := h
  have h := sp_istore (j := 5) (ls' := [.ref a, .ref q1, .int p2, .int x3, .int x6, .int x9]) (by decide +kernel) (Nat.le_of_ble_eq_true rfl) rfl h
  have h := sp_onk (i := .aload_n 1) (by decide +kernel) rfl h
  have h := sp_onk (i := .iload_n 2) (by decide +kernel) rfl h
  have h := sp_iconst (n := 0) (v := 0) (by decide +kernel) (by decide +kernel) h
  obtain ⟨r10, w11, hc, h⟩ := sp_callV (jj := 59) (mj := 68) (n := 2) (v := .ref q1) (args := [.int 0, .int p2]) (ls' := [.ref q1, .int p2, .int 0]) (by decide +kernel) (by decide +kernel) rfl rfl rfl h
  refine ⟨r10, w11, hc, fun x12 er hSw11 => ?_⟩
  subst er
  have h : PS X k 75 29 [.ref a, .ref q1, .int p2, .int x3, .int x6, .int x9] [.int x12] w11 r w' := h
  rcases Classical.em (x12 = 0) with hc0 | hc0
  · refine ite_t hc0 ?_
    have h := sp_tabIn (mi := 75) (pc := 29) (q := 0) (off := 35) (t := 64) (df := 74) (lo := 0) (hi := 4) (offs := #[35, 45, 55, 62, 68]) (by decide +kernel) (by rw [hc0]; decide +kernel) (by decide) (by decide +kernel) (by decide) rfl h
    have h := sp_onk (i := .aload_n 0) (by decide +kernel) rfl h
    have h := sp_onk (i := .iload_n 3) (by decide +kernel) rfl h
    have h := sp_onk (i := .iload 4) (by decide +kernel) rfl h
    have h := sp_onk (i := .iload 5) (by decide +kernel) rfl h
    obtain ⟨r13, w14, hc, h⟩ := sp_callV (jj := 64) (mj := 76) (n := 3) (v := .ref a) (args := [.int x9, .int x6, .int x3]) (ls' := [.ref a, .int x3, .int x6, .int x9]) (by decide +kernel) (by decide +kernel) rfl rfl rfl h
    refine ⟨r13, w14, hc, fun x15 er hSw14 => ?_⟩
    subst er
    have h : PS X k 75 73 [.ref a, .ref q1, .int p2, .int x3, .int x6, .int x9] [.int x15] w14 r w' := h
    exact sp_iret (by decide +kernel) h
  refine ite_f hc0 ?_
  rcases Classical.em (x12 = 1) with hc1 | hc1
  · refine ite_t hc1 ?_
    have h := sp_tabIn (mi := 75) (pc := 29) (q := 1) (off := 45) (t := 74) (df := 74) (lo := 0) (hi := 4) (offs := #[35, 45, 55, 62, 68]) (by decide +kernel) (by rw [hc1]; decide +kernel) (by decide) (by decide +kernel) (by decide) rfl h
    have h := sp_onk (i := .aload_n 0) (by decide +kernel) rfl h
    have h := sp_onk (i := .iload_n 3) (by decide +kernel) rfl h
    have h := sp_onk (i := .iload 4) (by decide +kernel) rfl h
    have h := sp_onk (i := .iload 5) (by decide +kernel) rfl h
    obtain ⟨r16, w17, hc, h⟩ := sp_callV (jj := 68) (mj := 78) (n := 3) (v := .ref a) (args := [.int x9, .int x6, .int x3]) (ls' := [.ref a, .int x3, .int x6, .int x9]) (by decide +kernel) (by decide +kernel) rfl rfl rfl h
    refine ⟨r16, w17, hc, fun x18 er hSw17 => ?_⟩
    subst er
    have h : PS X k 75 83 [.ref a, .ref q1, .int p2, .int x3, .int x6, .int x9] [.int x18] w17 r w' := h
    exact sp_iret (by decide +kernel) h
  refine ite_f hc1 ?_
  rcases Classical.em (x12 = 2) with hc2 | hc2
  · refine ite_t hc2 ?_
    have h := sp_tabIn (mi := 75) (pc := 29) (q := 2) (off := 55) (t := 84) (df := 74) (lo := 0) (hi := 4) (offs := #[35, 45, 55, 62, 68]) (by decide +kernel) (by rw [hc2]; decide +kernel) (by decide) (by decide +kernel) (by decide) rfl h
    have h := sp_onk (i := .aload_n 0) (by decide +kernel) rfl h
    have h := sp_onk (i := .aload_n 1) (by decide +kernel) rfl h
    have h := sp_onk (i := .iload_n 2) (by decide +kernel) rfl h
    obtain ⟨r19, w20, hc, h⟩ := sp_callV (jj := 71) (mj := 79) (n := 2) (v := .ref a) (args := [.int p2, .ref q1]) (ls' := [.ref a, .ref q1, .int p2, pm_dead, pm_dead, pm_dead]) (by decide +kernel) (by decide +kernel) rfl rfl rfl h
    refine ⟨r19, w20, hc, fun x21 er hSw20 => ?_⟩
    subst er
    have h : PS X k 75 90 [.ref a, .ref q1, .int p2, .int x3, .int x6, .int x9] [.int x21] w20 r w' := h
    exact sp_iret (by decide +kernel) h
  refine ite_f hc2 ?_
  rcases Classical.em (x12 = 3) with hc3 | hc3
  · refine ite_t hc3 ?_
    have h := sp_tabIn (mi := 75) (pc := 29) (q := 3) (off := 62) (t := 91) (df := 74) (lo := 0) (hi := 4) (offs := #[35, 45, 55, 62, 68]) (by decide +kernel) (by rw [hc3]; decide +kernel) (by decide) (by decide +kernel) (by decide) rfl h
    have h := sp_onk (i := .aload_n 0) (by decide +kernel) rfl h
    have h := sp_onk (i := .iload_n 3) (by decide +kernel) rfl h
    obtain ⟨r22, w23, hc, h⟩ := sp_callV (jj := 75) (mj := 82) (n := 1) (v := .ref a) (args := [.int x3]) (ls' := [.ref a, .int x3]) (by decide +kernel) (by decide +kernel) rfl rfl rfl h
    refine ⟨r22, w23, hc, fun x24 er hSw23 => ?_⟩
    subst er
    have h : PS X k 75 96 [.ref a, .ref q1, .int p2, .int x3, .int x6, .int x9] [.int x24] w23 r w' := h
    exact sp_iret (by decide +kernel) h
  refine ite_f hc3 ?_
  rcases Classical.em (x12 = 4) with hc4 | hc4
  · refine ite_t hc4 ?_
    have h := sp_tabIn (mi := 75) (pc := 29) (q := 4) (off := 68) (t := 97) (df := 74) (lo := 0) (hi := 4) (offs := #[35, 45, 55, 62, 68]) (by decide +kernel) (by rw [hc4]; decide +kernel) (by decide) (by decide +kernel) (by decide) rfl h
    have h := sp_onk (i := .aload_n 0) (by decide +kernel) rfl h
    have h := sp_onk (i := .iload_n 3) (by decide +kernel) rfl h
    obtain ⟨r25, w26, hc, h⟩ := sp_callV (jj := 79) (mj := 86) (n := 1) (v := .ref a) (args := [.int x3]) (ls' := [.ref a, .int x3, pm_dead]) (by decide +kernel) (by decide +kernel) rfl rfl rfl h
    refine ⟨r25, w26, hc, fun x27 er hSw26 => ?_⟩
    subst er
    have h : PS X k 75 102 [.ref a, .ref q1, .int p2, .int x3, .int x6, .int x9] [.int x27] w26 r w' := h
    exact sp_iret (by decide +kernel) h
  refine ite_f hc4 ?_
  have hout : x12.toInt < 0 ∨ 4 < x12.toInt := by
    have y0 : x12.toInt ≠ 0 := fun q => hc0 (Int32.toInt_inj.mp (by rw [q]; decide +kernel))
    have y1 : x12.toInt ≠ 1 := fun q => hc1 (Int32.toInt_inj.mp (by rw [q]; decide +kernel))
    have y2 : x12.toInt ≠ 2 := fun q => hc2 (Int32.toInt_inj.mp (by rw [q]; decide +kernel))
    have y3 : x12.toInt ≠ 3 := fun q => hc3 (Int32.toInt_inj.mp (by rw [q]; decide +kernel))
    have y4 : x12.toInt ≠ 4 := fun q => hc4 (Int32.toInt_inj.mp (by rw [q]; decide +kernel))
    omega
  have h := sp_tabOut (mi := 75) (pc := 29) (t := 103) (df := 74) (lo := 0) (hi := 4) (offs := #[35, 45, 55, 62, 68]) (by decide +kernel) hout (by decide) rfl h
  have h := sp_onk (i := .aload_n 0) (by decide +kernel) rfl h
  obtain ⟨r28, w29, hc, h⟩ := sp_callV (jj := 82) (mj := 90) (n := 0) (v := .ref a) (args := []) (ls' := [.ref a, pm_dead]) (by decide +kernel) (by decide +kernel) rfl rfl rfl h
  refine ⟨r28, w29, hc, fun x30 er hSw29 => ?_⟩
  subst er
  have h : PS X k 75 107 [.ref a, .ref q1, .int p2, .int x3, .int x6, .int x9] [.int x30] w29 r w' := h
  exact sp_iret (by decide +kernel) h
set_option maxRecDepth 20000 in
set_option maxHeartbeats 2000000 in
theorem U76_0 {X : pm_X} {k : Nat} {w w' : pm_W} {r : Option Value} {a : Nat} {p1 : Int32} {p2 : Int32} {p3 : Int32} (hS : SK w) (h : PS X (k + 1) 76 0 [.ref a, .int p1, .int p2, .int p3] [] w r w') : ∃ (r1 : Option Value) (w2 : pm_W), PS X k 61 0 [.ref (gR w a 0), .int p1] [] w r1 w2 ∧ (∀ x3 : Int32, r1 = some (.int x3) → SK w2 → (if x3 = 0 then (r = some (.int 0) ∧ w' = w2) else (∃ (r4 : Option Value) (w5 : pm_W), PS X k 61 0 [.ref (gR w2 a 0), .int p2] [] w2 r4 w5 ∧ (∀ x6 : Int32, r4 = some (.int x6) → SK w5 → (if x6 = 0 then (r = some (.int 0) ∧ w' = w5) else (∃ (r7 : Option Value) (w8 : pm_W), PS X k 77 0 [.ref a, .int p1, .int p2] [] w5 r7 w8 ∧ (∀ x9 : Int32, r7 = some (.int x9) → SK w8 → (if p3 ≤ x9 then (∃ (r10 : Option Value) (w11 : pm_W), PS X k 52 0 [.int p1, .int p2] [] w8 r10 w11 ∧ (∀ x12 : Int32, r10 = some (.int x12) → SK w11 → (aI w11 (gR w8 a 3) x12 ∧ (aI w11 (gR w8 a 3) x12 ∧ (∀ w13 : pm_W, w13 = aS w11 (gR w8 a 3) x12 ((aG w11 (gR w8 a 3) x12) + p3) → (r = some (.int 1) ∧ w' = w13)))))) else (r = some (.int 0) ∧ w' = w8))))))))) := by
  have h := sp_one (i := .aload_n 0) (by decide +kernel) rfl h
  have h := sp_getR (jj := 12) (ci := 7) (n := 0) (by decide +kernel) (by decide +kernel) (by decide +kernel) hS h
  have h := sp_onk (i := .iload_n 1) (by decide +kernel) rfl h
  obtain ⟨r1, w2, hc, h⟩ := sp_callV (jj := 86) (mj := 61) (n := 1) (v := .ref (gR w a 0)) (args := [.int p1]) (ls' := [.ref (gR w a 0), .int p1]) (by decide +kernel) (by decide +kernel) rfl rfl rfl h
  refine ⟨r1, w2, hc, fun x3 er hSw2 => ?_⟩
  subst er
  have h : PS X k 76 8 [.ref a, .int p1, .int p2, .int p3] [.int x3] w2 r w' := h
  rcases sp_if_eq (mi := 76) (pc := 8) (off := 24) (t := 32) (by decide +kernel) (by decide) rfl h with ⟨hc, h⟩ | ⟨hc, h⟩
  · refine ite_t hc ?_
    have h := sp_iconst (n := 0) (v := 0) (by decide +kernel) (by decide +kernel) h
    exact sp_iret (by decide +kernel) h
  · refine ite_f hc ?_
    have h := sp_onk (i := .aload_n 0) (by decide +kernel) rfl h
    have h := sp_getR (jj := 12) (ci := 7) (n := 0) (by decide +kernel) (by decide +kernel) (by decide +kernel) hSw2 h
    have h := sp_onk (i := .iload_n 2) (by decide +kernel) rfl h
    obtain ⟨r4, w5, hc, h⟩ := sp_callV (jj := 86) (mj := 61) (n := 1) (v := .ref (gR w2 a 0)) (args := [.int p2]) (ls' := [.ref (gR w2 a 0), .int p2]) (by decide +kernel) (by decide +kernel) rfl rfl rfl h
    refine ⟨r4, w5, hc, fun x6 er hSw5 => ?_⟩
    subst er
    have h : PS X k 76 19 [.ref a, .int p1, .int p2, .int p3] [.int x6] w5 r w' := h
    rcases sp_if_eq (mi := 76) (pc := 19) (off := 13) (t := 32) (by decide +kernel) (by decide) rfl h with ⟨hc, h⟩ | ⟨hc, h⟩
    · refine ite_t hc ?_
      have h := sp_iconst (n := 0) (v := 0) (by decide +kernel) (by decide +kernel) h
      exact sp_iret (by decide +kernel) h
    · refine ite_f hc ?_
      have h := sp_onk (i := .aload_n 0) (by decide +kernel) rfl h
      have h := sp_onk (i := .iload_n 1) (by decide +kernel) rfl h
      have h := sp_onk (i := .iload_n 2) (by decide +kernel) rfl h
      obtain ⟨r7, w8, hc, h⟩ := sp_callV (jj := 89) (mj := 77) (n := 2) (v := .ref a) (args := [.int p2, .int p1]) (ls' := [.ref a, .int p1, .int p2]) (by decide +kernel) (by decide +kernel) rfl rfl rfl h
      refine ⟨r7, w8, hc, fun x9 er hSw8 => ?_⟩
      subst er
      have h : PS X k 76 28 [.ref a, .int p1, .int p2, .int p3] [.int x9] w8 r w' := h
      have h := sp_onk (i := .iload_n 3) (by decide +kernel) rfl h
      rcases sp_icmp_ge (mi := 76) (pc := 29) (off := 5) (t := 34) (by decide +kernel) (by decide) rfl h with ⟨hc, h⟩ | ⟨hc, h⟩
      · refine ite_t hc ?_
        have h := sp_onk (i := .aload_n 0) (by decide +kernel) rfl h
        have h := sp_getR (jj := 18) (ci := 7) (n := 3) (by decide +kernel) (by decide +kernel) (by decide +kernel) hSw8 h
        have h := sp_onk (i := .iload_n 1) (by decide +kernel) rfl h
        have h := sp_onk (i := .iload_n 2) (by decide +kernel) rfl h
        obtain ⟨r10, w11, hc, h⟩ := sp_callS (jj := 50) (mj := 52) (n := 2) (args := [.int p2, .int p1]) (ls' := [.int p1, .int p2]) (by decide +kernel) (by decide +kernel) (by decide +kernel) rfl rfl rfl h
        refine ⟨r10, w11, hc, fun x12 er hSw11 => ?_⟩
        subst er
        have h : PS X k 76 43 [.ref a, .int p1, .int p2, .int p3] [.int x12, .ref (gR w8 a 3)] w11 r w' := h
        have h := sp_onk (i := .dup2) (by decide +kernel) rfl h
        obtain ⟨hi, h⟩ := sp_iald (by decide +kernel) h
        refine ⟨hi, ?_⟩
        have h := sp_onk (i := .iload_n 3) (by decide +kernel) rfl h
        have h := sp_onk (i := .iadd) (by decide +kernel) rfl h
        obtain ⟨hi, h⟩ := sp_iast (by decide +kernel) h
        refine ⟨hi, ?_⟩
        intro w13 ew13
        rw [← ew13] at h
        have hSw13 : SK w13 := by rw [ew13]; exact SK_aS hSw11
        have h := sp_iconst (n := 1) (v := 1) (by decide +kernel) (by decide +kernel) h
        exact sp_iret (by decide +kernel) h
      · refine ite_f hc ?_
        have h := sp_iconst (n := 0) (v := 0) (by decide +kernel) (by decide +kernel) h
        exact sp_iret (by decide +kernel) h
set_option maxRecDepth 20000 in
set_option maxHeartbeats 2000000 in
theorem U77_0 {X : pm_X} {k : Nat} {w w' : pm_W} {r : Option Value} {a : Nat} {p1 : Int32} {p2 : Int32} (hS : SK w) (h : PS X (k + 1) 77 0 [.ref a, .int p1, .int p2] [] w r w') : if p1 = p2 then (r = some (.int 0) ∧ w' = w) else (∃ (r1 : Option Value) (w2 : pm_W), PS X k 52 0 [.int p2, .int p1] [] w r1 w2 ∧ (∀ x3 : Int32, r1 = some (.int x3) → SK w2 → (aI w2 (gR w (gR w a 0) 3) x3 ∧ (∃ (r4 : Option Value) (w5 : pm_W), PS X k 52 0 [.int p1, .int p2] [] w2 r4 w5 ∧ (∀ x6 : Int32, r4 = some (.int x6) → SK w5 → (aI w5 (gR w2 a 3) x6 ∧ (r = some (.int (if 0 < ((aG w2 (gR w (gR w a 0) 3) x3) - (aG w5 (gR w2 a 3) x6)) then ((aG w2 (gR w (gR w a 0) 3) x3) - (aG w5 (gR w2 a 3) x6)) else 0)) ∧ w' = w5))))))) := by
  have h := sp_one (i := .iload_n 1) (by decide +kernel) rfl h
  have h := sp_onk (i := .iload_n 2) (by decide +kernel) rfl h
  rcases sp_icmp_ne (mi := 77) (pc := 2) (off := 5) (t := 7) (by decide +kernel) (by decide) rfl h with ⟨hc, h⟩ | ⟨hc, h⟩
  · refine ite_f hc ?_
    have h := sp_iconst (n := 0) (v := 0) (by decide +kernel) (by decide +kernel) h
    have h := sp_onk (i := .aload_n 0) (by decide +kernel) rfl h
    have h := sp_getR (jj := 12) (ci := 7) (n := 0) (by decide +kernel) (by decide +kernel) (by decide +kernel) hS h
    have h := sp_getR (jj := 47) (ci := 9) (n := 3) (by decide +kernel) (by decide +kernel) (by decide +kernel) hS h
    have h := sp_onk (i := .iload_n 2) (by decide +kernel) rfl h
    have h := sp_onk (i := .iload_n 1) (by decide +kernel) rfl h
    obtain ⟨r1, w2, hc, h⟩ := sp_callS (jj := 50) (mj := 52) (n := 2) (args := [.int p1, .int p2]) (ls' := [.int p2, .int p1]) (by decide +kernel) (by decide +kernel) (by decide +kernel) rfl rfl rfl h
    refine ⟨r1, w2, hc, fun x3 er hSw2 => ?_⟩
    subst er
    have h : PS X k 77 20 [.ref a, .int p1, .int p2] [.int x3, .ref (gR w (gR w a 0) 3), .int 0] w2 r w' := h
    obtain ⟨hi, h⟩ := sp_iald (by decide +kernel) h
    refine ⟨hi, ?_⟩
    have h := sp_onk (i := .aload_n 0) (by decide +kernel) rfl h
    have h := sp_getR (jj := 18) (ci := 7) (n := 3) (by decide +kernel) (by decide +kernel) (by decide +kernel) hSw2 h
    have h := sp_onk (i := .iload_n 1) (by decide +kernel) rfl h
    have h := sp_onk (i := .iload_n 2) (by decide +kernel) rfl h
    obtain ⟨r4, w5, hc, h⟩ := sp_callS (jj := 50) (mj := 52) (n := 2) (args := [.int p2, .int p1]) (ls' := [.int p1, .int p2]) (by decide +kernel) (by decide +kernel) (by decide +kernel) rfl rfl rfl h
    refine ⟨r4, w5, hc, fun x6 er hSw5 => ?_⟩
    subst er
    have h : PS X k 77 30 [.ref a, .int p1, .int p2] [.int x6, .ref (gR w2 a 3), .int (aG w2 (gR w (gR w a 0) 3) x3), .int 0] w5 r w' := h
    obtain ⟨hi, h⟩ := sp_iald (by decide +kernel) h
    refine ⟨hi, ?_⟩
    have h := sp_onk (i := .isub) (by decide +kernel) rfl h
    have h := sp_max (j := 54) (by decide +kernel) (by decide +kernel) (by decide +kernel) h
    exact sp_iret (by decide +kernel) h
  · refine ite_t (Classical.not_not.mp hc) ?_
    have h := sp_iconst (n := 0) (v := 0) (by decide +kernel) (by decide +kernel) h
    exact sp_iret (by decide +kernel) h
set_option maxRecDepth 20000 in
set_option maxHeartbeats 2000000 in
theorem U78_0 {X : pm_X} {k : Nat} {w w' : pm_W} {r : Option Value} {a : Nat} {p1 : Int32} {p2 : Int32} {p3 : Int32} (hS : SK w) (h : PS X (k + 1) 78 0 [.ref a, .int p1, .int p2, .int p3] [] w r w') : ∃ (r1 : Option Value) (w2 : pm_W), PS X k 61 0 [.ref (gR w a 0), .int p1] [] w r1 w2 ∧ (∀ x3 : Int32, r1 = some (.int x3) → SK w2 → (if x3 = 0 then (r = some (.int 0) ∧ w' = w2) else (∃ (r4 : Option Value) (w5 : pm_W), PS X k 61 0 [.ref (gR w2 a 0), .int p2] [] w2 r4 w5 ∧ (∀ x6 : Int32, r4 = some (.int x6) → SK w5 → (if x6 = 0 then (r = some (.int 0) ∧ w' = w5) else (∃ (r7 : Option Value) (w8 : pm_W), PS X k 52 0 [.int p1, .int p2] [] w5 r7 w8 ∧ (∀ x9 : Int32, r7 = some (.int x9) → SK w8 → (aI w8 (gR w5 a 3) x9 ∧ (if p3 ≤ (aG w8 (gR w5 a 3) x9) then (∃ (r10 : Option Value) (w11 : pm_W), PS X k 52 0 [.int p1, .int p2] [] w8 r10 w11 ∧ (∀ x12 : Int32, r10 = some (.int x12) → SK w11 → (aI w11 (gR w8 a 3) x12 ∧ (aI w11 (gR w8 a 3) x12 ∧ (∀ w13 : pm_W, w13 = aS w11 (gR w8 a 3) x12 ((aG w11 (gR w8 a 3) x12) - p3) → (r = some (.int 1) ∧ w' = w13)))))) else (r = some (.int 0) ∧ w' = w8)))))))))) := by
  have h := sp_one (i := .aload_n 0) (by decide +kernel) rfl h
  have h := sp_getR (jj := 12) (ci := 7) (n := 0) (by decide +kernel) (by decide +kernel) (by decide +kernel) hS h
  have h := sp_onk (i := .iload_n 1) (by decide +kernel) rfl h
  obtain ⟨r1, w2, hc, h⟩ := sp_callV (jj := 86) (mj := 61) (n := 1) (v := .ref (gR w a 0)) (args := [.int p1]) (ls' := [.ref (gR w a 0), .int p1]) (by decide +kernel) (by decide +kernel) rfl rfl rfl h
  refine ⟨r1, w2, hc, fun x3 er hSw2 => ?_⟩
  subst er
  have h : PS X k 78 8 [.ref a, .int p1, .int p2, .int p3] [.int x3] w2 r w' := h
  rcases sp_if_eq (mi := 78) (pc := 8) (off := 28) (t := 36) (by decide +kernel) (by decide) rfl h with ⟨hc, h⟩ | ⟨hc, h⟩
  · refine ite_t hc ?_
    have h := sp_iconst (n := 0) (v := 0) (by decide +kernel) (by decide +kernel) h
    exact sp_iret (by decide +kernel) h
  · refine ite_f hc ?_
    have h := sp_onk (i := .aload_n 0) (by decide +kernel) rfl h
    have h := sp_getR (jj := 12) (ci := 7) (n := 0) (by decide +kernel) (by decide +kernel) (by decide +kernel) hSw2 h
    have h := sp_onk (i := .iload_n 2) (by decide +kernel) rfl h
    obtain ⟨r4, w5, hc, h⟩ := sp_callV (jj := 86) (mj := 61) (n := 1) (v := .ref (gR w2 a 0)) (args := [.int p2]) (ls' := [.ref (gR w2 a 0), .int p2]) (by decide +kernel) (by decide +kernel) rfl rfl rfl h
    refine ⟨r4, w5, hc, fun x6 er hSw5 => ?_⟩
    subst er
    have h : PS X k 78 19 [.ref a, .int p1, .int p2, .int p3] [.int x6] w5 r w' := h
    rcases sp_if_eq (mi := 78) (pc := 19) (off := 17) (t := 36) (by decide +kernel) (by decide) rfl h with ⟨hc, h⟩ | ⟨hc, h⟩
    · refine ite_t hc ?_
      have h := sp_iconst (n := 0) (v := 0) (by decide +kernel) (by decide +kernel) h
      exact sp_iret (by decide +kernel) h
    · refine ite_f hc ?_
      have h := sp_onk (i := .aload_n 0) (by decide +kernel) rfl h
      have h := sp_getR (jj := 18) (ci := 7) (n := 3) (by decide +kernel) (by decide +kernel) (by decide +kernel) hSw5 h
      have h := sp_onk (i := .iload_n 1) (by decide +kernel) rfl h
      have h := sp_onk (i := .iload_n 2) (by decide +kernel) rfl h
      obtain ⟨r7, w8, hc, h⟩ := sp_callS (jj := 50) (mj := 52) (n := 2) (args := [.int p2, .int p1]) (ls' := [.int p1, .int p2]) (by decide +kernel) (by decide +kernel) (by decide +kernel) rfl rfl rfl h
      refine ⟨r7, w8, hc, fun x9 er hSw8 => ?_⟩
      subst er
      have h : PS X k 78 31 [.ref a, .int p1, .int p2, .int p3] [.int x9, .ref (gR w5 a 3)] w8 r w' := h
      obtain ⟨hi, h⟩ := sp_iald (by decide +kernel) h
      refine ⟨hi, ?_⟩
      have h := sp_onk (i := .iload_n 3) (by decide +kernel) rfl h
      rcases sp_icmp_ge (mi := 78) (pc := 33) (off := 5) (t := 38) (by decide +kernel) (by decide) rfl h with ⟨hc, h⟩ | ⟨hc, h⟩
      · refine ite_t hc ?_
        have h := sp_onk (i := .aload_n 0) (by decide +kernel) rfl h
        have h := sp_getR (jj := 18) (ci := 7) (n := 3) (by decide +kernel) (by decide +kernel) (by decide +kernel) hSw8 h
        have h := sp_onk (i := .iload_n 1) (by decide +kernel) rfl h
        have h := sp_onk (i := .iload_n 2) (by decide +kernel) rfl h
        obtain ⟨r10, w11, hc, h⟩ := sp_callS (jj := 50) (mj := 52) (n := 2) (args := [.int p2, .int p1]) (ls' := [.int p1, .int p2]) (by decide +kernel) (by decide +kernel) (by decide +kernel) rfl rfl rfl h
        refine ⟨r10, w11, hc, fun x12 er hSw11 => ?_⟩
        subst er
        have h : PS X k 78 47 [.ref a, .int p1, .int p2, .int p3] [.int x12, .ref (gR w8 a 3)] w11 r w' := h
        have h := sp_onk (i := .dup2) (by decide +kernel) rfl h
        obtain ⟨hi, h⟩ := sp_iald (by decide +kernel) h
        refine ⟨hi, ?_⟩
        have h := sp_onk (i := .iload_n 3) (by decide +kernel) rfl h
        have h := sp_onk (i := .isub) (by decide +kernel) rfl h
        obtain ⟨hi, h⟩ := sp_iast (by decide +kernel) h
        refine ⟨hi, ?_⟩
        intro w13 ew13
        rw [← ew13] at h
        have hSw13 : SK w13 := by rw [ew13]; exact SK_aS hSw11
        have h := sp_iconst (n := 1) (v := 1) (by decide +kernel) (by decide +kernel) h
        exact sp_iret (by decide +kernel) h
      · refine ite_f hc ?_
        have h := sp_iconst (n := 0) (v := 0) (by decide +kernel) (by decide +kernel) h
        exact sp_iret (by decide +kernel) h
set_option maxRecDepth 20000 in
set_option maxHeartbeats 2000000 in
theorem U79_0 {X : pm_X} {k : Nat} {w w' : pm_W} {r : Option Value} {a : Nat} {q1 : Nat} {p2 : Int32} (hS : SK w) (h : PS X (k + 1) 79 0 [.ref a, .ref q1, .int p2, pm_dead, pm_dead, pm_dead] [] w r w') : PS X k 79 5 [.ref a, .ref q1, .int p2, .int 0, .int 0, pm_dead] [] w r w' := by
  have h := sp_iconst1 (n := 0) (v := 0) (by decide +kernel) (by decide +kernel) h
  have h := sp_istore_n (j := 3) (ls' := [.ref a, .ref q1, .int p2, .int 0, pm_dead, pm_dead]) (by decide +kernel) (Nat.le_of_ble_eq_true rfl) rfl h
  have h := sp_iconst (n := 0) (v := 0) (by decide +kernel) (by decide +kernel) h
  have h := sp_istore (j := 4) (ls' := [.ref a, .ref q1, .int p2, .int 0, .int 0, pm_dead]) (by decide +kernel) (Nat.le_of_ble_eq_true rfl) rfl h
  exact h
set_option maxRecDepth 20000 in
set_option maxHeartbeats 2000000 in
theorem U79_5 {X : pm_X} {k : Nat} {w w' : pm_W} {r : Option Value} {o0 : Nat} {o1 : Nat} {i2 : Int32} {i3 : Int32} {i4 : Int32} {u5 : Value} (hS : SK w) (h : PS X (k + 1) 79 5 [.ref o0, .ref o1, .int i2, .int i3, .int i4, u5] [] w r w') : if 6 ≤ i4 then (∃ (r1 : Option Value) (w2 : pm_W), PS X k 68 0 [.ref o1, .int i2, .int 1] [] w r1 w2 ∧ (∀ x3 : Int32, r1 = some (.int x3) → SK w2 → (∃ (r4 : Option Value) (w5 : pm_W), PS X k 80 0 [.ref o0, .ref (gR w2 o0 5), .int i3, .int x3, pm_dead, pm_dead] [] w2 r4 w5 ∧ (∀ x6 : Int32, r4 = some (.int x6) → SK w5 → (if x6 = 0 then (r = some (.int 0) ∧ w' = w5) else (∃ (r7 : Option Value) (w8 : pm_W), PS X k 68 0 [.ref o1, .int i2, .int 2] [] w5 r7 w8 ∧ (∀ x9 : Int32, r7 = some (.int x9) → SK w8 → (∃ (r10 : Option Value) (w11 : pm_W), PS X k 81 0 [.ref o0, .ref (gR w5 o0 5), .int i3, .int x3, .int x9, pm_dead, pm_dead] [] w8 r10 w11 ∧ (r10 = none → SK w11 → (r = some (.int 1) ∧ w' = w11)))))))))) else (∃ (r12 : Option Value) (w13 : pm_W), PS X k 68 0 [.ref o1, .int i2, .int (3 + i4)] [] w r12 w13 ∧ (∀ x14 : Int32, r12 = some (.int x14) → SK w13 → (if x14 = (-1) then (PS X k 79 5 [.ref o0, .ref o1, .int i2, .int i3, .int (i4 + 1), .int x14] [] w13 r w') else (aI w13 (gR w13 o0 5) i3 ∧ (∀ w15 : pm_W, w15 = aS w13 (gR w13 o0 5) i3 x14 → (PS X k 79 5 [.ref o0, .ref o1, .int i2, .int (i3 + 1), .int (i4 + 1), .int x14] [] w15 r w')))))) := by
  have h := sp_one (i := .iload 4) (by decide +kernel) rfl h
  have h := sp_bipush (n := 6) (v := 6) (by decide +kernel) (by decide +kernel) h
  rcases sp_icmp_ge (mi := 79) (pc := 9) (off := 37) (t := 46) (by decide +kernel) (by decide) rfl h with ⟨hc, h⟩ | ⟨hc, h⟩
  · refine ite_t hc ?_
    have h := sp_onk (i := .aload_n 1) (by decide +kernel) rfl h
    have h := sp_onk (i := .iload_n 2) (by decide +kernel) rfl h
    have h := sp_iconst (n := 1) (v := 1) (by decide +kernel) (by decide +kernel) h
    obtain ⟨r1, w2, hc, h⟩ := sp_callV (jj := 59) (mj := 68) (n := 2) (v := .ref o1) (args := [.int 1, .int i2]) (ls' := [.ref o1, .int i2, .int 1]) (by decide +kernel) (by decide +kernel) rfl rfl rfl h
    refine ⟨r1, w2, hc, fun x3 er hSw2 => ?_⟩
    subst er
    have h : PS X k 79 52 [.ref o0, .ref o1, .int i2, .int i3, .int i4, u5] [.int x3] w2 r w' := h
    have h := sp_istore (j := 4) (ls' := [.ref o0, .ref o1, .int i2, .int i3, .int x3, u5]) (by decide +kernel) (Nat.le_of_ble_eq_true rfl) rfl h
    have h := sp_onk (i := .aload_n 0) (by decide +kernel) rfl h
    have h := sp_onk (i := .aload_n 0) (by decide +kernel) rfl h
    have h := sp_getR (jj := 25) (ci := 7) (n := 5) (by decide +kernel) (by decide +kernel) (by decide +kernel) hSw2 h
    have h := sp_onk (i := .iload_n 3) (by decide +kernel) rfl h
    have h := sp_onk (i := .iload 4) (by decide +kernel) rfl h
    obtain ⟨r4, w5, hc, h⟩ := sp_callV (jj := 92) (mj := 80) (n := 3) (v := .ref o0) (args := [.int x3, .int i3, .ref (gR w2 o0 5)]) (ls' := [.ref o0, .ref (gR w2 o0 5), .int i3, .int x3, pm_dead, pm_dead]) (by decide +kernel) (by decide +kernel) rfl rfl rfl h
    refine ⟨r4, w5, hc, fun x6 er hSw5 => ?_⟩
    subst er
    have h : PS X k 79 65 [.ref o0, .ref o1, .int i2, .int i3, .int x3, u5] [.int x6] w5 r w' := h
    rcases sp_if_ne (mi := 79) (pc := 65) (off := 5) (t := 70) (by decide +kernel) (by decide) rfl h with ⟨hc, h⟩ | ⟨hc, h⟩
    · refine ite_f hc ?_
      have h := sp_onk (i := .aload_n 0) (by decide +kernel) rfl h
      have h := sp_onk (i := .aload_n 0) (by decide +kernel) rfl h
      have h := sp_getR (jj := 25) (ci := 7) (n := 5) (by decide +kernel) (by decide +kernel) (by decide +kernel) hSw5 h
      have h := sp_onk (i := .iload_n 3) (by decide +kernel) rfl h
      have h := sp_onk (i := .iload 4) (by decide +kernel) rfl h
      have h := sp_onk (i := .aload_n 1) (by decide +kernel) rfl h
      have h := sp_onk (i := .iload_n 2) (by decide +kernel) rfl h
      have h := sp_iconst (n := 2) (v := 2) (by decide +kernel) (by decide +kernel) h
      obtain ⟨r7, w8, hc, h⟩ := sp_callV (jj := 59) (mj := 68) (n := 2) (v := .ref o1) (args := [.int 2, .int i2]) (ls' := [.ref o1, .int i2, .int 2]) (by decide +kernel) (by decide +kernel) rfl rfl rfl h
      refine ⟨r7, w8, hc, fun x9 er hSw8 => ?_⟩
      subst er
      have h : PS X k 79 84 [.ref o0, .ref o1, .int i2, .int i3, .int x3, u5] [.int x9, .int x3, .int i3, .ref (gR w5 o0 5), .ref o0] w8 r w' := h
      obtain ⟨r10, w11, hc, h⟩ := sp_callV (jj := 96) (mj := 81) (n := 4) (v := .ref o0) (args := [.int x9, .int x3, .int i3, .ref (gR w5 o0 5)]) (ls' := [.ref o0, .ref (gR w5 o0 5), .int i3, .int x3, .int x9, pm_dead, pm_dead]) (by decide +kernel) (by decide +kernel) rfl rfl rfl h
      refine ⟨r10, w11, hc, fun er hSw11 => ?_⟩
      subst er
      have h : PS X k 79 87 [.ref o0, .ref o1, .int i2, .int i3, .int x3, u5] [] w11 r w' := h
      have h := sp_iconst (n := 1) (v := 1) (by decide +kernel) (by decide +kernel) h
      exact sp_iret (by decide +kernel) h
    · refine ite_t (Classical.not_not.mp hc) ?_
      have h := sp_iconst (n := 0) (v := 0) (by decide +kernel) (by decide +kernel) h
      exact sp_iret (by decide +kernel) h
  · refine ite_f hc ?_
    have h := sp_onk (i := .aload_n 1) (by decide +kernel) rfl h
    have h := sp_onk (i := .iload_n 2) (by decide +kernel) rfl h
    have h := sp_iconst (n := 3) (v := 3) (by decide +kernel) (by decide +kernel) h
    have h := sp_onk (i := .iload 4) (by decide +kernel) rfl h
    have h := sp_onk (i := .iadd) (by decide +kernel) rfl h
    obtain ⟨r12, w13, hc, h⟩ := sp_callV (jj := 59) (mj := 68) (n := 2) (v := .ref o1) (args := [.int (3 + i4), .int i2]) (ls' := [.ref o1, .int i2, .int (3 + i4)]) (by decide +kernel) (by decide +kernel) rfl rfl rfl h
    refine ⟨r12, w13, hc, fun x14 er hSw13 => ?_⟩
    subst er
    have h : PS X k 79 21 [.ref o0, .ref o1, .int i2, .int i3, .int i4, u5] [.int x14] w13 r w' := h
    have h := sp_istore (j := 5) (ls' := [.ref o0, .ref o1, .int i2, .int i3, .int i4, .int x14]) (by decide +kernel) (Nat.le_of_ble_eq_true rfl) rfl h
    have h := sp_onk (i := .iload 5) (by decide +kernel) rfl h
    have h := sp_iconst (n := (-1)) (v := (-1)) (by decide +kernel) (by decide +kernel) h
    rcases sp_icmp_eq (mi := 79) (pc := 26) (off := 14) (t := 40) (by decide +kernel) (by decide) rfl h with ⟨hc, h⟩ | ⟨hc, h⟩
    · refine ite_t hc ?_
      have h := sp_iinc (j := 4) (n := 1) (v := 1) (ls' := [.ref o0, .ref o1, .int i2, .int i3, .int (i4 + 1), .int x14]) (by decide +kernel) rfl (by decide +kernel) rfl h
      have h := sp_goto (mi := 79) (pc := 43) (off := (-38)) (t := 5) (by decide +kernel) (by decide) rfl h
      exact h
    · refine ite_f hc ?_
      have h := sp_onk (i := .aload_n 0) (by decide +kernel) rfl h
      have h := sp_getR (jj := 25) (ci := 7) (n := 5) (by decide +kernel) (by decide +kernel) (by decide +kernel) hSw13 h
      have h := sp_onk (i := .iload_n 3) (by decide +kernel) rfl h
      have h := sp_onk (i := .iload 5) (by decide +kernel) rfl h
      obtain ⟨hi, h⟩ := sp_iast (by decide +kernel) h
      refine ⟨hi, ?_⟩
      intro w15 ew15
      rw [← ew15] at h
      have hSw15 : SK w15 := by rw [ew15]; exact SK_aS hSw13
      have h := sp_iinc (j := 3) (n := 1) (v := 1) (ls' := [.ref o0, .ref o1, .int i2, .int (i3 + 1), .int i4, .int x14]) (by decide +kernel) rfl (by decide +kernel) rfl h
      have h := sp_iinc (j := 4) (n := 1) (v := 1) (ls' := [.ref o0, .ref o1, .int i2, .int (i3 + 1), .int (i4 + 1), .int x14]) (by decide +kernel) rfl (by decide +kernel) rfl h
      have h := sp_goto (mi := 79) (pc := 43) (off := (-38)) (t := 5) (by decide +kernel) (by decide) rfl h
      exact h
set_option maxRecDepth 20000 in
set_option maxHeartbeats 2000000 in
theorem U80_0 {X : pm_X} {k : Nat} {w w' : pm_W} {r : Option Value} {a : Nat} {q1 : Nat} {p2 : Int32} {p3 : Int32} (hS : SK w) (h : PS X (k + 1) 80 0 [.ref a, .ref q1, .int p2, .int p3, pm_dead, pm_dead] [] w r w') : PS X k 80 3 [.ref a, .ref q1, .int p2, .int p3, .int 0, pm_dead] [] w r w' := by
  have h := sp_iconst1 (n := 0) (v := 0) (by decide +kernel) (by decide +kernel) h
  have h := sp_istore (j := 4) (ls' := [.ref a, .ref q1, .int p2, .int p3, .int 0, pm_dead]) (by decide +kernel) (Nat.le_of_ble_eq_true rfl) rfl h
  exact h
set_option maxRecDepth 20000 in
set_option maxHeartbeats 2000000 in
theorem U80_3 {X : pm_X} {k : Nat} {w w' : pm_W} {r : Option Value} {o0 : Nat} {o1 : Nat} {i2 : Int32} {i3 : Int32} {i4 : Int32} {u5 : Value} (hS : SK w) (h : PS X (k + 1) 80 3 [.ref o0, .ref o1, .int i2, .int i3, .int i4, u5] [] w r w') : if i2 ≤ i4 then (r = some (.int 1) ∧ w' = w) else (if i2 ≤ (i4 + 1) then (aI w o1 0 ∧ (aI w o1 i4 ∧ (∃ (r1 : Option Value) (w2 : pm_W), PS X k 61 0 [.ref (gR w o0 0), .int (aG w o1 i4)] [] w r1 w2 ∧ (∀ x3 : Int32, r1 = some (.int x3) → SK w2 → (if x3 = 0 then (r = some (.int 0) ∧ w' = w2) else (∃ (r4 : Option Value) (w5 : pm_W), PS X k 61 0 [.ref (gR w2 o0 0), .int (aG w o1 0)] [] w2 r4 w5 ∧ (∀ x6 : Int32, r4 = some (.int x6) → SK w5 → (if x6 = 0 then (r = some (.int 0) ∧ w' = w5) else (aI w5 o1 i4 ∧ (∃ (r7 : Option Value) (w8 : pm_W), PS X k 77 0 [.ref o0, .int (aG w5 o1 i4), .int (aG w o1 0)] [] w5 r7 w8 ∧ (∀ x9 : Int32, r7 = some (.int x9) → SK w8 → (if i3 ≤ x9 then (PS X k 80 3 [.ref o0, .ref o1, .int i2, .int i3, .int (i4 + 1), .int (aG w o1 0)] [] w8 r w') else (r = some (.int 0) ∧ w' = w8))))))))))))) else (aI w o1 (i4 + 1) ∧ (aI w o1 i4 ∧ (∃ (r10 : Option Value) (w11 : pm_W), PS X k 61 0 [.ref (gR w o0 0), .int (aG w o1 i4)] [] w r10 w11 ∧ (∀ x12 : Int32, r10 = some (.int x12) → SK w11 → (if x12 = 0 then (r = some (.int 0) ∧ w' = w11) else (∃ (r13 : Option Value) (w14 : pm_W), PS X k 61 0 [.ref (gR w11 o0 0), .int (aG w o1 (i4 + 1))] [] w11 r13 w14 ∧ (∀ x15 : Int32, r13 = some (.int x15) → SK w14 → (if x15 = 0 then (r = some (.int 0) ∧ w' = w14) else (aI w14 o1 i4 ∧ (∃ (r16 : Option Value) (w17 : pm_W), PS X k 77 0 [.ref o0, .int (aG w14 o1 i4), .int (aG w o1 (i4 + 1))] [] w14 r16 w17 ∧ (∀ x18 : Int32, r16 = some (.int x18) → SK w17 → (if i3 ≤ x18 then (PS X k 80 3 [.ref o0, .ref o1, .int i2, .int i3, .int (i4 + 1), .int (aG w o1 (i4 + 1))] [] w17 r w') else (r = some (.int 0) ∧ w' = w17)))))))))))))) := by
  have h := sp_one (i := .iload 4) (by decide +kernel) rfl h
  have h := sp_onk (i := .iload_n 2) (by decide +kernel) rfl h
  rcases sp_icmp_ge (mi := 80) (pc := 6) (off := 71) (t := 77) (by decide +kernel) (by decide) rfl h with ⟨hc, h⟩ | ⟨hc, h⟩
  · refine ite_t hc ?_
    have h := sp_iconst (n := 1) (v := 1) (by decide +kernel) (by decide +kernel) h
    exact sp_iret (by decide +kernel) h
  · refine ite_f hc ?_
    have h := sp_onk (i := .aload_n 1) (by decide +kernel) rfl h
    have h := sp_onk (i := .iload 4) (by decide +kernel) rfl h
    have h := sp_iconst (n := 1) (v := 1) (by decide +kernel) (by decide +kernel) h
    have h := sp_onk (i := .iadd) (by decide +kernel) rfl h
    have h := sp_onk (i := .iload_n 2) (by decide +kernel) rfl h
    rcases sp_icmp_ge (mi := 80) (pc := 15) (off := 10) (t := 25) (by decide +kernel) (by decide) rfl h with ⟨hc, h⟩ | ⟨hc, h⟩
    · refine ite_t hc ?_
      have h := sp_iconst (n := 0) (v := 0) (by decide +kernel) (by decide +kernel) h
      obtain ⟨hi, h⟩ := sp_iald (by decide +kernel) h
      refine ⟨hi, ?_⟩
      have h := sp_istore (j := 5) (ls' := [.ref o0, .ref o1, .int i2, .int i3, .int i4, .int (aG w o1 0)]) (by decide +kernel) (Nat.le_of_ble_eq_true rfl) rfl h
      have h := sp_onk (i := .aload_n 0) (by decide +kernel) rfl h
      have h := sp_getR (jj := 12) (ci := 7) (n := 0) (by decide +kernel) (by decide +kernel) (by decide +kernel) hS h
      have h := sp_onk (i := .aload_n 1) (by decide +kernel) rfl h
      have h := sp_onk (i := .iload 4) (by decide +kernel) rfl h
      obtain ⟨hi, h⟩ := sp_iald (by decide +kernel) h
      refine ⟨hi, ?_⟩
      obtain ⟨r1, w2, hc, h⟩ := sp_callV (jj := 86) (mj := 61) (n := 1) (v := .ref (gR w o0 0)) (args := [.int (aG w o1 i4)]) (ls' := [.ref (gR w o0 0), .int (aG w o1 i4)]) (by decide +kernel) (by decide +kernel) rfl rfl rfl h
      refine ⟨r1, w2, hc, fun x3 er hSw2 => ?_⟩
      subst er
      have h : PS X k 80 40 [.ref o0, .ref o1, .int i2, .int i3, .int i4, .int (aG w o1 0)] [.int x3] w2 r w' := h
      rcases sp_if_eq (mi := 80) (pc := 40) (off := 29) (t := 69) (by decide +kernel) (by decide) rfl h with ⟨hc, h⟩ | ⟨hc, h⟩
      · refine ite_t hc ?_
        have h := sp_iconst (n := 0) (v := 0) (by decide +kernel) (by decide +kernel) h
        exact sp_iret (by decide +kernel) h
      · refine ite_f hc ?_
        have h := sp_onk (i := .aload_n 0) (by decide +kernel) rfl h
        have h := sp_getR (jj := 12) (ci := 7) (n := 0) (by decide +kernel) (by decide +kernel) (by decide +kernel) hSw2 h
        have h := sp_onk (i := .iload 5) (by decide +kernel) rfl h
        obtain ⟨r4, w5, hc, h⟩ := sp_callV (jj := 86) (mj := 61) (n := 1) (v := .ref (gR w2 o0 0)) (args := [.int (aG w o1 0)]) (ls' := [.ref (gR w2 o0 0), .int (aG w o1 0)]) (by decide +kernel) (by decide +kernel) rfl rfl rfl h
        refine ⟨r4, w5, hc, fun x6 er hSw5 => ?_⟩
        subst er
        have h : PS X k 80 52 [.ref o0, .ref o1, .int i2, .int i3, .int i4, .int (aG w o1 0)] [.int x6] w5 r w' := h
        rcases sp_if_eq (mi := 80) (pc := 52) (off := 17) (t := 69) (by decide +kernel) (by decide) rfl h with ⟨hc, h⟩ | ⟨hc, h⟩
        · refine ite_t hc ?_
          have h := sp_iconst (n := 0) (v := 0) (by decide +kernel) (by decide +kernel) h
          exact sp_iret (by decide +kernel) h
        · refine ite_f hc ?_
          have h := sp_onk (i := .aload_n 0) (by decide +kernel) rfl h
          have h := sp_onk (i := .aload_n 1) (by decide +kernel) rfl h
          have h := sp_onk (i := .iload 4) (by decide +kernel) rfl h
          obtain ⟨hi, h⟩ := sp_iald (by decide +kernel) h
          refine ⟨hi, ?_⟩
          have h := sp_onk (i := .iload 5) (by decide +kernel) rfl h
          obtain ⟨r7, w8, hc, h⟩ := sp_callV (jj := 89) (mj := 77) (n := 2) (v := .ref o0) (args := [.int (aG w o1 0), .int (aG w5 o1 i4)]) (ls' := [.ref o0, .int (aG w5 o1 i4), .int (aG w o1 0)]) (by decide +kernel) (by decide +kernel) rfl rfl rfl h
          refine ⟨r7, w8, hc, fun x9 er hSw8 => ?_⟩
          subst er
          have h : PS X k 80 65 [.ref o0, .ref o1, .int i2, .int i3, .int i4, .int (aG w o1 0)] [.int x9] w8 r w' := h
          have h := sp_onk (i := .iload_n 3) (by decide +kernel) rfl h
          rcases sp_icmp_ge (mi := 80) (pc := 66) (off := 5) (t := 71) (by decide +kernel) (by decide) rfl h with ⟨hc, h⟩ | ⟨hc, h⟩
          · refine ite_t hc ?_
            have h := sp_iinc (j := 4) (n := 1) (v := 1) (ls' := [.ref o0, .ref o1, .int i2, .int i3, .int (i4 + 1), .int (aG w o1 0)]) (by decide +kernel) rfl (by decide +kernel) rfl h
            have h := sp_goto (mi := 80) (pc := 74) (off := (-71)) (t := 3) (by decide +kernel) (by decide) rfl h
            exact h
          · refine ite_f hc ?_
            have h := sp_iconst (n := 0) (v := 0) (by decide +kernel) (by decide +kernel) h
            exact sp_iret (by decide +kernel) h
    · refine ite_f hc ?_
      have h := sp_onk (i := .iload 4) (by decide +kernel) rfl h
      have h := sp_iconst (n := 1) (v := 1) (by decide +kernel) (by decide +kernel) h
      have h := sp_onk (i := .iadd) (by decide +kernel) rfl h
      have h := sp_goto (mi := 80) (pc := 22) (off := 4) (t := 26) (by decide +kernel) (by decide) rfl h
      obtain ⟨hi, h⟩ := sp_iald (by decide +kernel) h
      refine ⟨hi, ?_⟩
      have h := sp_istore (j := 5) (ls' := [.ref o0, .ref o1, .int i2, .int i3, .int i4, .int (aG w o1 (i4 + 1))]) (by decide +kernel) (Nat.le_of_ble_eq_true rfl) rfl h
      have h := sp_onk (i := .aload_n 0) (by decide +kernel) rfl h
      have h := sp_getR (jj := 12) (ci := 7) (n := 0) (by decide +kernel) (by decide +kernel) (by decide +kernel) hS h
      have h := sp_onk (i := .aload_n 1) (by decide +kernel) rfl h
      have h := sp_onk (i := .iload 4) (by decide +kernel) rfl h
      obtain ⟨hi, h⟩ := sp_iald (by decide +kernel) h
      refine ⟨hi, ?_⟩
      obtain ⟨r10, w11, hc, h⟩ := sp_callV (jj := 86) (mj := 61) (n := 1) (v := .ref (gR w o0 0)) (args := [.int (aG w o1 i4)]) (ls' := [.ref (gR w o0 0), .int (aG w o1 i4)]) (by decide +kernel) (by decide +kernel) rfl rfl rfl h
      refine ⟨r10, w11, hc, fun x12 er hSw11 => ?_⟩
      subst er
      have h : PS X k 80 40 [.ref o0, .ref o1, .int i2, .int i3, .int i4, .int (aG w o1 (i4 + 1))] [.int x12] w11 r w' := h
      rcases sp_if_eq (mi := 80) (pc := 40) (off := 29) (t := 69) (by decide +kernel) (by decide) rfl h with ⟨hc, h⟩ | ⟨hc, h⟩
      · refine ite_t hc ?_
        have h := sp_iconst (n := 0) (v := 0) (by decide +kernel) (by decide +kernel) h
        exact sp_iret (by decide +kernel) h
      · refine ite_f hc ?_
        have h := sp_onk (i := .aload_n 0) (by decide +kernel) rfl h
        have h := sp_getR (jj := 12) (ci := 7) (n := 0) (by decide +kernel) (by decide +kernel) (by decide +kernel) hSw11 h
        have h := sp_onk (i := .iload 5) (by decide +kernel) rfl h
        obtain ⟨r13, w14, hc, h⟩ := sp_callV (jj := 86) (mj := 61) (n := 1) (v := .ref (gR w11 o0 0)) (args := [.int (aG w o1 (i4 + 1))]) (ls' := [.ref (gR w11 o0 0), .int (aG w o1 (i4 + 1))]) (by decide +kernel) (by decide +kernel) rfl rfl rfl h
        refine ⟨r13, w14, hc, fun x15 er hSw14 => ?_⟩
        subst er
        have h : PS X k 80 52 [.ref o0, .ref o1, .int i2, .int i3, .int i4, .int (aG w o1 (i4 + 1))] [.int x15] w14 r w' := h
        rcases sp_if_eq (mi := 80) (pc := 52) (off := 17) (t := 69) (by decide +kernel) (by decide) rfl h with ⟨hc, h⟩ | ⟨hc, h⟩
        · refine ite_t hc ?_
          have h := sp_iconst (n := 0) (v := 0) (by decide +kernel) (by decide +kernel) h
          exact sp_iret (by decide +kernel) h
        · refine ite_f hc ?_
          have h := sp_onk (i := .aload_n 0) (by decide +kernel) rfl h
          have h := sp_onk (i := .aload_n 1) (by decide +kernel) rfl h
          have h := sp_onk (i := .iload 4) (by decide +kernel) rfl h
          obtain ⟨hi, h⟩ := sp_iald (by decide +kernel) h
          refine ⟨hi, ?_⟩
          have h := sp_onk (i := .iload 5) (by decide +kernel) rfl h
          obtain ⟨r16, w17, hc, h⟩ := sp_callV (jj := 89) (mj := 77) (n := 2) (v := .ref o0) (args := [.int (aG w o1 (i4 + 1)), .int (aG w14 o1 i4)]) (ls' := [.ref o0, .int (aG w14 o1 i4), .int (aG w o1 (i4 + 1))]) (by decide +kernel) (by decide +kernel) rfl rfl rfl h
          refine ⟨r16, w17, hc, fun x18 er hSw17 => ?_⟩
          subst er
          have h : PS X k 80 65 [.ref o0, .ref o1, .int i2, .int i3, .int i4, .int (aG w o1 (i4 + 1))] [.int x18] w17 r w' := h
          have h := sp_onk (i := .iload_n 3) (by decide +kernel) rfl h
          rcases sp_icmp_ge (mi := 80) (pc := 66) (off := 5) (t := 71) (by decide +kernel) (by decide) rfl h with ⟨hc, h⟩ | ⟨hc, h⟩
          · refine ite_t hc ?_
            have h := sp_iinc (j := 4) (n := 1) (v := 1) (ls' := [.ref o0, .ref o1, .int i2, .int i3, .int (i4 + 1), .int (aG w o1 (i4 + 1))]) (by decide +kernel) rfl (by decide +kernel) rfl h
            have h := sp_goto (mi := 80) (pc := 74) (off := (-71)) (t := 3) (by decide +kernel) (by decide) rfl h
            exact h
          · refine ite_f hc ?_
            have h := sp_iconst (n := 0) (v := 0) (by decide +kernel) (by decide +kernel) h
            exact sp_iret (by decide +kernel) h
set_option maxRecDepth 20000 in
set_option maxHeartbeats 2000000 in
theorem U81_0 {X : pm_X} {k : Nat} {w w' : pm_W} {r : Option Value} {a : Nat} {q1 : Nat} {p2 : Int32} {p3 : Int32} {p4 : Int32} (hS : SK w) (h : PS X (k + 1) 81 0 [.ref a, .ref q1, .int p2, .int p3, .int p4, pm_dead, pm_dead] [] w r w') : if (gI w a 2) < 37 then (aI w (gR w a 4) (((gI w a 2) * 10) + 0) ∧ (∀ w1 : pm_W, w1 = aS w (gR w a 4) (((gI w a 2) * 10) + 0) p2 → (aI w1 (gR w1 a 4) (((gI w a 2) * 10) + 1) ∧ (∀ w2 : pm_W, w2 = aS w1 (gR w1 a 4) (((gI w a 2) * 10) + 1) p3 → (aI w2 (gR w2 a 4) (((gI w a 2) * 10) + 2) ∧ (∀ w3 : pm_W, w3 = aS w2 (gR w2 a 4) (((gI w a 2) * 10) + 2) p4 → (aI w3 (gR w3 a 4) (((gI w a 2) * 10) + 3) ∧ (∀ w4 : pm_W, w4 = aS w3 (gR w3 a 4) (((gI w a 2) * 10) + 3) 1 → (PS X k 81 63 [.ref a, .ref q1, .int p2, .int p3, .int p4, .int ((gI w a 2) * 10), .int 0] [] w4 r w'))))))))) else (r = none ∧ w' = w) := by
  have h := sp_one (i := .aload_n 0) (by decide +kernel) rfl h
  have h := sp_getI (jj := 32) (ci := 7) (n := 2) (by decide +kernel) (by decide +kernel) (by decide +kernel) hS h
  have h := sp_bipush (n := 37) (v := 37) (by decide +kernel) (by decide +kernel) h
  rcases sp_icmp_lt (mi := 81) (pc := 6) (off := 4) (t := 10) (by decide +kernel) (by decide) rfl h with ⟨hc, h⟩ | ⟨hc, h⟩
  · refine ite_t hc ?_
    have h := sp_onk (i := .aload_n 0) (by decide +kernel) rfl h
    have h := sp_getI (jj := 32) (ci := 7) (n := 2) (by decide +kernel) (by decide +kernel) (by decide +kernel) hS h
    have h := sp_bipush (n := 10) (v := 10) (by decide +kernel) (by decide +kernel) h
    have h := sp_onk (i := .imul) (by decide +kernel) rfl h
    have h := sp_istore (j := 5) (ls' := [.ref a, .ref q1, .int p2, .int p3, .int p4, .int ((gI w a 2) * 10), pm_dead]) (by decide +kernel) (Nat.le_of_ble_eq_true rfl) rfl h
    have h := sp_onk (i := .aload_n 0) (by decide +kernel) rfl h
    have h := sp_getR (jj := 22) (ci := 7) (n := 4) (by decide +kernel) (by decide +kernel) (by decide +kernel) hS h
    have h := sp_onk (i := .iload 5) (by decide +kernel) rfl h
    have h := sp_iconst (n := 0) (v := 0) (by decide +kernel) (by decide +kernel) h
    have h := sp_onk (i := .iadd) (by decide +kernel) rfl h
    have h := sp_onk (i := .iload_n 2) (by decide +kernel) rfl h
    obtain ⟨hi, h⟩ := sp_iast (by decide +kernel) h
    refine ⟨hi, ?_⟩
    intro w1 ew1
    rw [← ew1] at h
    have hSw1 : SK w1 := by rw [ew1]; exact SK_aS hS
    have h := sp_onk (i := .aload_n 0) (by decide +kernel) rfl h
    have h := sp_getR (jj := 22) (ci := 7) (n := 4) (by decide +kernel) (by decide +kernel) (by decide +kernel) hSw1 h
    have h := sp_onk (i := .iload 5) (by decide +kernel) rfl h
    have h := sp_iconst (n := 1) (v := 1) (by decide +kernel) (by decide +kernel) h
    have h := sp_onk (i := .iadd) (by decide +kernel) rfl h
    have h := sp_onk (i := .iload_n 3) (by decide +kernel) rfl h
    obtain ⟨hi, h⟩ := sp_iast (by decide +kernel) h
    refine ⟨hi, ?_⟩
    intro w2 ew2
    rw [← ew2] at h
    have hSw2 : SK w2 := by rw [ew2]; exact SK_aS hSw1
    have h := sp_onk (i := .aload_n 0) (by decide +kernel) rfl h
    have h := sp_getR (jj := 22) (ci := 7) (n := 4) (by decide +kernel) (by decide +kernel) (by decide +kernel) hSw2 h
    have h := sp_onk (i := .iload 5) (by decide +kernel) rfl h
    have h := sp_iconst (n := 2) (v := 2) (by decide +kernel) (by decide +kernel) h
    have h := sp_onk (i := .iadd) (by decide +kernel) rfl h
    have h := sp_onk (i := .iload 4) (by decide +kernel) rfl h
    obtain ⟨hi, h⟩ := sp_iast (by decide +kernel) h
    refine ⟨hi, ?_⟩
    intro w3 ew3
    rw [← ew3] at h
    have hSw3 : SK w3 := by rw [ew3]; exact SK_aS hSw2
    have h := sp_onk (i := .aload_n 0) (by decide +kernel) rfl h
    have h := sp_getR (jj := 22) (ci := 7) (n := 4) (by decide +kernel) (by decide +kernel) (by decide +kernel) hSw3 h
    have h := sp_onk (i := .iload 5) (by decide +kernel) rfl h
    have h := sp_iconst (n := 3) (v := 3) (by decide +kernel) (by decide +kernel) h
    have h := sp_onk (i := .iadd) (by decide +kernel) rfl h
    have h := sp_iconst (n := 1) (v := 1) (by decide +kernel) (by decide +kernel) h
    obtain ⟨hi, h⟩ := sp_iast (by decide +kernel) h
    refine ⟨hi, ?_⟩
    intro w4 ew4
    rw [← ew4] at h
    have hSw4 : SK w4 := by rw [ew4]; exact SK_aS hSw3
    have h := sp_iconst (n := 0) (v := 0) (by decide +kernel) (by decide +kernel) h
    have h := sp_istore (j := 6) (ls' := [.ref a, .ref q1, .int p2, .int p3, .int p4, .int ((gI w a 2) * 10), .int 0]) (by decide +kernel) (Nat.le_of_ble_eq_true rfl) rfl h
    exact h
  · refine ite_f hc ?_
    exact sp_vret (by decide +kernel) h
set_option maxRecDepth 20000 in
set_option maxHeartbeats 2000000 in
theorem U81_63 {X : pm_X} {k : Nat} {w w' : pm_W} {r : Option Value} {o0 : Nat} {o1 : Nat} {i2 : Int32} {i3 : Int32} {i4 : Int32} {i5 : Int32} {i6 : Int32} (hS : SK w) (h : PS X (k + 1) 81 63 [.ref o0, .ref o1, .int i2, .int i3, .int i4, .int i5, .int i6] [] w r w') : if i2 ≤ i6 then (∀ w1 : pm_W, w1 = sI w o0 2 ((gI w o0 2) + 1) → (r = none ∧ w' = w1)) else (aI w o1 i6 ∧ (aI w (gR w o0 4) ((i5 + 4) + i6) ∧ (∀ w2 : pm_W, w2 = aS w (gR w o0 4) ((i5 + 4) + i6) (aG w o1 i6) → (aI w2 o1 i6 ∧ (if i2 ≤ (i6 + 1) then (aI w2 o1 0 ∧ (∃ (r3 : Option Value) (w4 : pm_W), PS X k 52 0 [.int (aG w2 o1 i6), .int (aG w2 o1 0)] [] w2 r3 w4 ∧ (∀ x5 : Int32, r3 = some (.int x5) → SK w4 → (aI w4 (gR w2 o0 3) x5 ∧ (aI w4 (gR w2 o0 3) x5 ∧ (∀ w6 : pm_W, w6 = aS w4 (gR w2 o0 3) x5 ((aG w4 (gR w2 o0 3) x5) + i3) → (PS X k 81 63 [.ref o0, .ref o1, .int i2, .int i3, .int i4, .int i5, .int (i6 + 1)] [] w6 r w'))))))) else (aI w2 o1 (i6 + 1) ∧ (∃ (r7 : Option Value) (w8 : pm_W), PS X k 52 0 [.int (aG w2 o1 i6), .int (aG w2 o1 (i6 + 1))] [] w2 r7 w8 ∧ (∀ x9 : Int32, r7 = some (.int x9) → SK w8 → (aI w8 (gR w2 o0 3) x9 ∧ (aI w8 (gR w2 o0 3) x9 ∧ (∀ w10 : pm_W, w10 = aS w8 (gR w2 o0 3) x9 ((aG w8 (gR w2 o0 3) x9) + i3) → (PS X k 81 63 [.ref o0, .ref o1, .int i2, .int i3, .int i4, .int i5, .int (i6 + 1)] [] w10 r w')))))))))))) := by
  have h := sp_one (i := .iload 6) (by decide +kernel) rfl h
  have h := sp_onk (i := .iload_n 2) (by decide +kernel) rfl h
  rcases sp_icmp_ge (mi := 81) (pc := 66) (off := 59) (t := 125) (by decide +kernel) (by decide) rfl h with ⟨hc, h⟩ | ⟨hc, h⟩
  · refine ite_t hc ?_
    have h := sp_onk (i := .aload_n 0) (by decide +kernel) rfl h
    have h := sp_onk (i := .dup) (by decide +kernel) rfl h
    have h := sp_getI (jj := 32) (ci := 7) (n := 2) (by decide +kernel) (by decide +kernel) (by decide +kernel) hS h
    have h := sp_iconst (n := 1) (v := 1) (by decide +kernel) (by decide +kernel) h
    have h := sp_onk (i := .iadd) (by decide +kernel) rfl h
    have h := sp_putI (jj := 32) (ci := 7) (n := 2) (ty := .int) (by decide +kernel) (by decide +kernel) (by decide +kernel) hS h
    intro w1 ew1
    rw [← ew1] at h
    have hSw1 : SK w1 := by rw [ew1]; exact SK_sI hS
    exact sp_vret (by decide +kernel) h
  · refine ite_f hc ?_
    have h := sp_onk (i := .aload_n 0) (by decide +kernel) rfl h
    have h := sp_getR (jj := 22) (ci := 7) (n := 4) (by decide +kernel) (by decide +kernel) (by decide +kernel) hS h
    have h := sp_onk (i := .iload 5) (by decide +kernel) rfl h
    have h := sp_iconst (n := 4) (v := 4) (by decide +kernel) (by decide +kernel) h
    have h := sp_onk (i := .iadd) (by decide +kernel) rfl h
    have h := sp_onk (i := .iload 6) (by decide +kernel) rfl h
    have h := sp_onk (i := .iadd) (by decide +kernel) rfl h
    have h := sp_onk (i := .aload_n 1) (by decide +kernel) rfl h
    have h := sp_onk (i := .iload 6) (by decide +kernel) rfl h
    obtain ⟨hi, h⟩ := sp_iald (by decide +kernel) h
    refine ⟨hi, ?_⟩
    obtain ⟨hi, h⟩ := sp_iast (by decide +kernel) h
    refine ⟨hi, ?_⟩
    intro w2 ew2
    rw [← ew2] at h
    have hSw2 : SK w2 := by rw [ew2]; exact SK_aS hS
    have h := sp_onk (i := .aload_n 0) (by decide +kernel) rfl h
    have h := sp_getR (jj := 18) (ci := 7) (n := 3) (by decide +kernel) (by decide +kernel) (by decide +kernel) hSw2 h
    have h := sp_onk (i := .aload_n 1) (by decide +kernel) rfl h
    have h := sp_onk (i := .iload 6) (by decide +kernel) rfl h
    obtain ⟨hi, h⟩ := sp_iald (by decide +kernel) h
    refine ⟨hi, ?_⟩
    have h := sp_onk (i := .aload_n 1) (by decide +kernel) rfl h
    have h := sp_onk (i := .iload 6) (by decide +kernel) rfl h
    have h := sp_iconst (n := 1) (v := 1) (by decide +kernel) (by decide +kernel) h
    have h := sp_onk (i := .iadd) (by decide +kernel) rfl h
    have h := sp_onk (i := .iload_n 2) (by decide +kernel) rfl h
    rcases sp_icmp_ge (mi := 81) (pc := 99) (off := 10) (t := 109) (by decide +kernel) (by decide) rfl h with ⟨hc, h⟩ | ⟨hc, h⟩
    · refine ite_t hc ?_
      have h := sp_iconst (n := 0) (v := 0) (by decide +kernel) (by decide +kernel) h
      obtain ⟨hi, h⟩ := sp_iald (by decide +kernel) h
      refine ⟨hi, ?_⟩
      obtain ⟨r3, w4, hc, h⟩ := sp_callS (jj := 50) (mj := 52) (n := 2) (args := [.int (aG w2 o1 0), .int (aG w2 o1 i6)]) (ls' := [.int (aG w2 o1 i6), .int (aG w2 o1 0)]) (by decide +kernel) (by decide +kernel) (by decide +kernel) rfl rfl rfl h
      refine ⟨r3, w4, hc, fun x5 er hSw4 => ?_⟩
      subst er
      have h : PS X k 81 114 [.ref o0, .ref o1, .int i2, .int i3, .int i4, .int i5, .int i6] [.int x5, .ref (gR w2 o0 3)] w4 r w' := h
      have h := sp_onk (i := .dup2) (by decide +kernel) rfl h
      obtain ⟨hi, h⟩ := sp_iald (by decide +kernel) h
      refine ⟨hi, ?_⟩
      have h := sp_onk (i := .iload_n 3) (by decide +kernel) rfl h
      have h := sp_onk (i := .iadd) (by decide +kernel) rfl h
      obtain ⟨hi, h⟩ := sp_iast (by decide +kernel) h
      refine ⟨hi, ?_⟩
      intro w6 ew6
      rw [← ew6] at h
      have hSw6 : SK w6 := by rw [ew6]; exact SK_aS hSw4
      have h := sp_iinc (j := 6) (n := 1) (v := 1) (ls' := [.ref o0, .ref o1, .int i2, .int i3, .int i4, .int i5, .int (i6 + 1)]) (by decide +kernel) rfl (by decide +kernel) rfl h
      have h := sp_goto (mi := 81) (pc := 122) (off := (-59)) (t := 63) (by decide +kernel) (by decide) rfl h
      exact h
    · refine ite_f hc ?_
      have h := sp_onk (i := .iload 6) (by decide +kernel) rfl h
      have h := sp_iconst (n := 1) (v := 1) (by decide +kernel) (by decide +kernel) h
      have h := sp_onk (i := .iadd) (by decide +kernel) rfl h
      have h := sp_goto (mi := 81) (pc := 106) (off := 4) (t := 110) (by decide +kernel) (by decide) rfl h
      obtain ⟨hi, h⟩ := sp_iald (by decide +kernel) h
      refine ⟨hi, ?_⟩
      obtain ⟨r7, w8, hc, h⟩ := sp_callS (jj := 50) (mj := 52) (n := 2) (args := [.int (aG w2 o1 (i6 + 1)), .int (aG w2 o1 i6)]) (ls' := [.int (aG w2 o1 i6), .int (aG w2 o1 (i6 + 1))]) (by decide +kernel) (by decide +kernel) (by decide +kernel) rfl rfl rfl h
      refine ⟨r7, w8, hc, fun x9 er hSw8 => ?_⟩
      subst er
      have h : PS X k 81 114 [.ref o0, .ref o1, .int i2, .int i3, .int i4, .int i5, .int i6] [.int x9, .ref (gR w2 o0 3)] w8 r w' := h
      have h := sp_onk (i := .dup2) (by decide +kernel) rfl h
      obtain ⟨hi, h⟩ := sp_iald (by decide +kernel) h
      refine ⟨hi, ?_⟩
      have h := sp_onk (i := .iload_n 3) (by decide +kernel) rfl h
      have h := sp_onk (i := .iadd) (by decide +kernel) rfl h
      obtain ⟨hi, h⟩ := sp_iast (by decide +kernel) h
      refine ⟨hi, ?_⟩
      intro w10 ew10
      rw [← ew10] at h
      have hSw10 : SK w10 := by rw [ew10]; exact SK_aS hSw8
      have h := sp_iinc (j := 6) (n := 1) (v := 1) (ls' := [.ref o0, .ref o1, .int i2, .int i3, .int i4, .int i5, .int (i6 + 1)]) (by decide +kernel) rfl (by decide +kernel) rfl h
      have h := sp_goto (mi := 81) (pc := 122) (off := (-59)) (t := 63) (by decide +kernel) (by decide) rfl h
      exact h
set_option maxRecDepth 20000 in
set_option maxHeartbeats 2000000 in
theorem U82_0 {X : pm_X} {k : Nat} {w w' : pm_W} {r : Option Value} {a : Nat} {p1 : Int32} (hS : SK w) (h : PS X (k + 1) 82 0 [.ref a, .int p1] [] w r w') : if p1 < 0 then (r = some (.int 0) ∧ w' = w) else (if (gI w a 2) ≤ p1 then (r = some (.int 0) ∧ w' = w) else (∃ (r1 : Option Value) (w2 : pm_W), PS X k 83 0 [.ref a, .int p1] [] w r1 w2 ∧ (∀ x3 : Int32, r1 = some (.int x3) → SK w2 → (if x3 = 0 then (r = some (.int 0) ∧ w' = w2) else (∃ (r4 : Option Value) (w5 : pm_W), PS X k 85 0 [.ref a, .int p1, pm_dead, pm_dead, pm_dead, pm_dead, pm_dead] [] w2 r4 w5 ∧ (r4 = none → SK w5 → (r = some (.int 1) ∧ w' = w5))))))) := by
  have h := sp_one (i := .iload_n 1) (by decide +kernel) rfl h
  rcases sp_if_lt (mi := 82) (pc := 1) (off := 19) (t := 20) (by decide +kernel) (by decide) rfl h with ⟨hc, h⟩ | ⟨hc, h⟩
  · refine ite_t hc ?_
    have h := sp_iconst (n := 0) (v := 0) (by decide +kernel) (by decide +kernel) h
    exact sp_iret (by decide +kernel) h
  · refine ite_f hc ?_
    have h := sp_onk (i := .iload_n 1) (by decide +kernel) rfl h
    have h := sp_onk (i := .aload_n 0) (by decide +kernel) rfl h
    have h := sp_getI (jj := 32) (ci := 7) (n := 2) (by decide +kernel) (by decide +kernel) (by decide +kernel) hS h
    rcases sp_icmp_ge (mi := 82) (pc := 9) (off := 11) (t := 20) (by decide +kernel) (by decide) rfl h with ⟨hc, h⟩ | ⟨hc, h⟩
    · refine ite_t hc ?_
      have h := sp_iconst (n := 0) (v := 0) (by decide +kernel) (by decide +kernel) h
      exact sp_iret (by decide +kernel) h
    · refine ite_f hc ?_
      have h := sp_onk (i := .aload_n 0) (by decide +kernel) rfl h
      have h := sp_onk (i := .iload_n 1) (by decide +kernel) rfl h
      obtain ⟨r1, w2, hc, h⟩ := sp_callV (jj := 103) (mj := 83) (n := 1) (v := .ref a) (args := [.int p1]) (ls' := [.ref a, .int p1]) (by decide +kernel) (by decide +kernel) rfl rfl rfl h
      refine ⟨r1, w2, hc, fun x3 er hSw2 => ?_⟩
      subst er
      have h : PS X k 82 17 [.ref a, .int p1] [.int x3] w2 r w' := h
      rcases sp_if_ne (mi := 82) (pc := 17) (off := 5) (t := 22) (by decide +kernel) (by decide) rfl h with ⟨hc, h⟩ | ⟨hc, h⟩
      · refine ite_f hc ?_
        have h := sp_onk (i := .aload_n 0) (by decide +kernel) rfl h
        have h := sp_onk (i := .iload_n 1) (by decide +kernel) rfl h
        obtain ⟨r4, w5, hc, h⟩ := sp_callV (jj := 114) (mj := 85) (n := 1) (v := .ref a) (args := [.int p1]) (ls' := [.ref a, .int p1, pm_dead, pm_dead, pm_dead, pm_dead, pm_dead]) (by decide +kernel) (by decide +kernel) rfl rfl rfl h
        refine ⟨r4, w5, hc, fun er hSw5 => ?_⟩
        subst er
        have h : PS X k 82 27 [.ref a, .int p1] [] w5 r w' := h
        have h := sp_iconst (n := 1) (v := 1) (by decide +kernel) (by decide +kernel) h
        exact sp_iret (by decide +kernel) h
      · refine ite_t (Classical.not_not.mp hc) ?_
        have h := sp_iconst (n := 0) (v := 0) (by decide +kernel) (by decide +kernel) h
        exact sp_iret (by decide +kernel) h
set_option maxRecDepth 20000 in
set_option maxHeartbeats 2000000 in
theorem U83_0 {X : pm_X} {k : Nat} {w w' : pm_W} {r : Option Value} {a : Nat} {p1 : Int32} (hS : SK w) (h : PS X (k + 1) 83 0 [.ref a, .int p1] [] w r w') : ∃ (r1 : Option Value) (w2 : pm_W), PS X k 84 0 [.ref a, .int p1, .int 3] [] w r1 w2 ∧ (∀ x3 : Int32, r1 = some (.int x3) → SK w2 → (if x3 = 1 then (r = some (.int 1) ∧ w' = w2) else (r = some (.int 0) ∧ w' = w2))) := by
  have h := sp_one (i := .aload_n 0) (by decide +kernel) rfl h
  have h := sp_onk (i := .iload_n 1) (by decide +kernel) rfl h
  have h := sp_iconst (n := 3) (v := 3) (by decide +kernel) (by decide +kernel) h
  obtain ⟨r1, w2, hc, h⟩ := sp_callV (jj := 100) (mj := 84) (n := 2) (v := .ref a) (args := [.int 3, .int p1]) (ls' := [.ref a, .int p1, .int 3]) (by decide +kernel) (by decide +kernel) rfl rfl rfl h
  refine ⟨r1, w2, hc, fun x3 er hSw2 => ?_⟩
  subst er
  have h : PS X k 83 6 [.ref a, .int p1] [.int x3] w2 r w' := h
  have h := sp_iconst (n := 1) (v := 1) (by decide +kernel) (by decide +kernel) h
  rcases sp_icmp_ne (mi := 83) (pc := 7) (off := 7) (t := 14) (by decide +kernel) (by decide) rfl h with ⟨hc, h⟩ | ⟨hc, h⟩
  · refine ite_f hc ?_
    have h := sp_iconst (n := 0) (v := 0) (by decide +kernel) (by decide +kernel) h
    exact sp_iret (by decide +kernel) h
  · refine ite_t (Classical.not_not.mp hc) ?_
    have h := sp_iconst (n := 1) (v := 1) (by decide +kernel) (by decide +kernel) h
    have h := sp_goto (mi := 83) (pc := 11) (off := 4) (t := 15) (by decide +kernel) (by decide) rfl h
    exact sp_iret (by decide +kernel) h
set_option maxRecDepth 20000 in
set_option maxHeartbeats 2000000 in
theorem U84_0 {X : pm_X} {k : Nat} {w w' : pm_W} {r : Option Value} {a : Nat} {p1 : Int32} {p2 : Int32} (hS : SK w) (h : PS X (k + 1) 84 0 [.ref a, .int p1, .int p2] [] w r w') : aI w (gR w a 4) ((p1 * 10) + p2) ∧ (r = some (.int (aG w (gR w a 4) ((p1 * 10) + p2))) ∧ w' = w) := by
  have h := sp_one (i := .aload_n 0) (by decide +kernel) rfl h
  have h := sp_getR (jj := 22) (ci := 7) (n := 4) (by decide +kernel) (by decide +kernel) (by decide +kernel) hS h
  have h := sp_onk (i := .iload_n 1) (by decide +kernel) rfl h
  have h := sp_bipush (n := 10) (v := 10) (by decide +kernel) (by decide +kernel) h
  have h := sp_onk (i := .imul) (by decide +kernel) rfl h
  have h := sp_onk (i := .iload_n 2) (by decide +kernel) rfl h
  have h := sp_onk (i := .iadd) (by decide +kernel) rfl h
  obtain ⟨hi, h⟩ := sp_iald (by decide +kernel) h
  refine ⟨hi, ?_⟩
  exact sp_iret (by decide +kernel) h
set_option maxRecDepth 20000 in
set_option maxHeartbeats 2000000 in
theorem U85_0 {X : pm_X} {k : Nat} {w w' : pm_W} {r : Option Value} {a : Nat} {p1 : Int32} (hS : SK w) (h : PS X (k + 1) 85 0 [.ref a, .int p1, pm_dead, pm_dead, pm_dead, pm_dead, pm_dead] [] w r w') : ∃ (r1 : Option Value) (w2 : pm_W), PS X k 84 0 [.ref a, .int p1, .int 0] [] w r1 w2 ∧ (∀ x3 : Int32, r1 = some (.int x3) → SK w2 → (∃ (r4 : Option Value) (w5 : pm_W), PS X k 84 0 [.ref a, .int p1, .int 1] [] w2 r4 w5 ∧ (∀ x6 : Int32, r4 = some (.int x6) → SK w5 → (PS X k 85 17 [.ref a, .int p1, .int x3, .int x6, .int 0, pm_dead, pm_dead] [] w5 r w')))) := by
  have h := sp_one (i := .aload_n 0) (by decide +kernel) rfl h
  have h := sp_onk (i := .iload_n 1) (by decide +kernel) rfl h
  have h := sp_iconst (n := 0) (v := 0) (by decide +kernel) (by decide +kernel) h
  obtain ⟨r1, w2, hc, h⟩ := sp_callV (jj := 100) (mj := 84) (n := 2) (v := .ref a) (args := [.int 0, .int p1]) (ls' := [.ref a, .int p1, .int 0]) (by decide +kernel) (by decide +kernel) rfl rfl rfl h
  refine ⟨r1, w2, hc, fun x3 er hSw2 => ?_⟩
  subst er
  have h : PS X k 85 6 [.ref a, .int p1, pm_dead, pm_dead, pm_dead, pm_dead, pm_dead] [.int x3] w2 r w' := h
  have h := sp_istore_n (j := 2) (ls' := [.ref a, .int p1, .int x3, pm_dead, pm_dead, pm_dead, pm_dead]) (by decide +kernel) (Nat.le_of_ble_eq_true rfl) rfl h
  have h := sp_onk (i := .aload_n 0) (by decide +kernel) rfl h
  have h := sp_onk (i := .iload_n 1) (by decide +kernel) rfl h
  have h := sp_iconst (n := 1) (v := 1) (by decide +kernel) (by decide +kernel) h
  obtain ⟨r4, w5, hc, h⟩ := sp_callV (jj := 100) (mj := 84) (n := 2) (v := .ref a) (args := [.int 1, .int p1]) (ls' := [.ref a, .int p1, .int 1]) (by decide +kernel) (by decide +kernel) rfl rfl rfl h
  refine ⟨r4, w5, hc, fun x6 er hSw5 => ?_⟩
  subst er
  have h : PS X k 85 13 [.ref a, .int p1, .int x3, pm_dead, pm_dead, pm_dead, pm_dead] [.int x6] w5 r w' := h
  have h := sp_istore_n (j := 3) (ls' := [.ref a, .int p1, .int x3, .int x6, pm_dead, pm_dead, pm_dead]) (by decide +kernel) (Nat.le_of_ble_eq_true rfl) rfl h
  have h := sp_iconst (n := 0) (v := 0) (by decide +kernel) (by decide +kernel) h
  have h := sp_istore (j := 4) (ls' := [.ref a, .int p1, .int x3, .int x6, .int 0, pm_dead, pm_dead]) (by decide +kernel) (Nat.le_of_ble_eq_true rfl) rfl h
  exact h
set_option maxRecDepth 20000 in
set_option maxHeartbeats 2000000 in
theorem U85_17 {X : pm_X} {k : Nat} {w w' : pm_W} {r : Option Value} {o0 : Nat} {i1 : Int32} {i2 : Int32} {i3 : Int32} {i4 : Int32} {u5 : Value} {u6 : Value} (hS : SK w) (h : PS X (k + 1) 85 17 [.ref o0, .int i1, .int i2, .int i3, .int i4, u5, u6] [] w r w') : if i2 ≤ i4 then (aI w (gR w o0 4) ((i1 * 10) + 3) ∧ (∀ w1 : pm_W, w1 = aS w (gR w o0 4) ((i1 * 10) + 3) 0 → (r = none ∧ w' = w1))) else (∃ (r2 : Option Value) (w3 : pm_W), PS X k 84 0 [.ref o0, .int i1, .int (4 + i4)] [] w r2 w3 ∧ (∀ x4 : Int32, r2 = some (.int x4) → SK w3 → (if i2 ≤ (i4 + 1) then (∃ (r5 : Option Value) (w6 : pm_W), PS X k 84 0 [.ref o0, .int i1, .int (4 + 0)] [] w3 r5 w6 ∧ (∀ x7 : Int32, r5 = some (.int x7) → SK w6 → (∃ (r8 : Option Value) (w9 : pm_W), PS X k 52 0 [.int x4, .int x7] [] w6 r8 w9 ∧ (∀ x10 : Int32, r8 = some (.int x10) → SK w9 → (∃ (r11 : Option Value) (w12 : pm_W), PS X k 52 0 [.int x4, .int x7] [] w9 r11 w12 ∧ (∀ x13 : Int32, r11 = some (.int x13) → SK w12 → (aI w12 (gR w9 o0 3) x13 ∧ (aI w12 (gR w6 o0 3) x10 ∧ (∀ w14 : pm_W, w14 = aS w12 (gR w6 o0 3) x10 (if 0 < ((aG w12 (gR w9 o0 3) x13) - i3) then ((aG w12 (gR w9 o0 3) x13) - i3) else 0) → (PS X k 85 17 [.ref o0, .int i1, .int i2, .int i3, .int (i4 + 1), .int x4, .int x7] [] w14 r w')))))))))) else (∃ (r15 : Option Value) (w16 : pm_W), PS X k 84 0 [.ref o0, .int i1, .int (4 + (i4 + 1))] [] w3 r15 w16 ∧ (∀ x17 : Int32, r15 = some (.int x17) → SK w16 → (∃ (r18 : Option Value) (w19 : pm_W), PS X k 52 0 [.int x4, .int x17] [] w16 r18 w19 ∧ (∀ x20 : Int32, r18 = some (.int x20) → SK w19 → (∃ (r21 : Option Value) (w22 : pm_W), PS X k 52 0 [.int x4, .int x17] [] w19 r21 w22 ∧ (∀ x23 : Int32, r21 = some (.int x23) → SK w22 → (aI w22 (gR w19 o0 3) x23 ∧ (aI w22 (gR w16 o0 3) x20 ∧ (∀ w24 : pm_W, w24 = aS w22 (gR w16 o0 3) x20 (if 0 < ((aG w22 (gR w19 o0 3) x23) - i3) then ((aG w22 (gR w19 o0 3) x23) - i3) else 0) → (PS X k 85 17 [.ref o0, .int i1, .int i2, .int i3, .int (i4 + 1), .int x4, .int x17] [] w24 r w'))))))))))))) := by
  have h := sp_one (i := .iload 4) (by decide +kernel) rfl h
  have h := sp_onk (i := .iload_n 2) (by decide +kernel) rfl h
  rcases sp_icmp_ge (mi := 85) (pc := 20) (off := 75) (t := 95) (by decide +kernel) (by decide) rfl h with ⟨hc, h⟩ | ⟨hc, h⟩
  · refine ite_t hc ?_
    have h := sp_onk (i := .aload_n 0) (by decide +kernel) rfl h
    have h := sp_getR (jj := 22) (ci := 7) (n := 4) (by decide +kernel) (by decide +kernel) (by decide +kernel) hS h
    have h := sp_onk (i := .iload_n 1) (by decide +kernel) rfl h
    have h := sp_bipush (n := 10) (v := 10) (by decide +kernel) (by decide +kernel) h
    have h := sp_onk (i := .imul) (by decide +kernel) rfl h
    have h := sp_iconst (n := 3) (v := 3) (by decide +kernel) (by decide +kernel) h
    have h := sp_onk (i := .iadd) (by decide +kernel) rfl h
    have h := sp_iconst (n := 0) (v := 0) (by decide +kernel) (by decide +kernel) h
    obtain ⟨hi, h⟩ := sp_iast (by decide +kernel) h
    refine ⟨hi, ?_⟩
    intro w1 ew1
    rw [← ew1] at h
    have hSw1 : SK w1 := by rw [ew1]; exact SK_aS hS
    exact sp_vret (by decide +kernel) h
  · refine ite_f hc ?_
    have h := sp_onk (i := .aload_n 0) (by decide +kernel) rfl h
    have h := sp_onk (i := .iload_n 1) (by decide +kernel) rfl h
    have h := sp_iconst (n := 4) (v := 4) (by decide +kernel) (by decide +kernel) h
    have h := sp_onk (i := .iload 4) (by decide +kernel) rfl h
    have h := sp_onk (i := .iadd) (by decide +kernel) rfl h
    obtain ⟨r2, w3, hc, h⟩ := sp_callV (jj := 100) (mj := 84) (n := 2) (v := .ref o0) (args := [.int (4 + i4), .int i1]) (ls' := [.ref o0, .int i1, .int (4 + i4)]) (by decide +kernel) (by decide +kernel) rfl rfl rfl h
    refine ⟨r2, w3, hc, fun x4 er hSw3 => ?_⟩
    subst er
    have h : PS X k 85 32 [.ref o0, .int i1, .int i2, .int i3, .int i4, u5, u6] [.int x4] w3 r w' := h
    have h := sp_istore (j := 5) (ls' := [.ref o0, .int i1, .int i2, .int i3, .int i4, .int x4, u6]) (by decide +kernel) (Nat.le_of_ble_eq_true rfl) rfl h
    have h := sp_onk (i := .aload_n 0) (by decide +kernel) rfl h
    have h := sp_onk (i := .iload_n 1) (by decide +kernel) rfl h
    have h := sp_iconst (n := 4) (v := 4) (by decide +kernel) (by decide +kernel) h
    have h := sp_onk (i := .iload 4) (by decide +kernel) rfl h
    have h := sp_iconst (n := 1) (v := 1) (by decide +kernel) (by decide +kernel) h
    have h := sp_onk (i := .iadd) (by decide +kernel) rfl h
    have h := sp_onk (i := .iload_n 2) (by decide +kernel) rfl h
    rcases sp_icmp_ge (mi := 85) (pc := 42) (off := 10) (t := 52) (by decide +kernel) (by decide) rfl h with ⟨hc, h⟩ | ⟨hc, h⟩
    · refine ite_t hc ?_
      have h := sp_iconst (n := 0) (v := 0) (by decide +kernel) (by decide +kernel) h
      have h := sp_onk (i := .iadd) (by decide +kernel) rfl h
      obtain ⟨r5, w6, hc, h⟩ := sp_callV (jj := 100) (mj := 84) (n := 2) (v := .ref o0) (args := [.int (4 + 0), .int i1]) (ls' := [.ref o0, .int i1, .int (4 + 0)]) (by decide +kernel) (by decide +kernel) rfl rfl rfl h
      refine ⟨r5, w6, hc, fun x7 er hSw6 => ?_⟩
      subst er
      have h : PS X k 85 57 [.ref o0, .int i1, .int i2, .int i3, .int i4, .int x4, u6] [.int x7] w6 r w' := h
      have h := sp_istore (j := 6) (ls' := [.ref o0, .int i1, .int i2, .int i3, .int i4, .int x4, .int x7]) (by decide +kernel) (Nat.le_of_ble_eq_true rfl) rfl h
      have h := sp_onk (i := .aload_n 0) (by decide +kernel) rfl h
      have h := sp_getR (jj := 18) (ci := 7) (n := 3) (by decide +kernel) (by decide +kernel) (by decide +kernel) hSw6 h
      have h := sp_onk (i := .iload 5) (by decide +kernel) rfl h
      have h := sp_onk (i := .iload 6) (by decide +kernel) rfl h
      obtain ⟨r8, w9, hc, h⟩ := sp_callS (jj := 50) (mj := 52) (n := 2) (args := [.int x7, .int x4]) (ls' := [.int x4, .int x7]) (by decide +kernel) (by decide +kernel) (by decide +kernel) rfl rfl rfl h
      refine ⟨r8, w9, hc, fun x10 er hSw9 => ?_⟩
      subst er
      have h : PS X k 85 70 [.ref o0, .int i1, .int i2, .int i3, .int i4, .int x4, .int x7] [.int x10, .ref (gR w6 o0 3)] w9 r w' := h
      have h := sp_iconst (n := 0) (v := 0) (by decide +kernel) (by decide +kernel) h
      have h := sp_onk (i := .aload_n 0) (by decide +kernel) rfl h
      have h := sp_getR (jj := 18) (ci := 7) (n := 3) (by decide +kernel) (by decide +kernel) (by decide +kernel) hSw9 h
      have h := sp_onk (i := .iload 5) (by decide +kernel) rfl h
      have h := sp_onk (i := .iload 6) (by decide +kernel) rfl h
      obtain ⟨r11, w12, hc, h⟩ := sp_callS (jj := 50) (mj := 52) (n := 2) (args := [.int x7, .int x4]) (ls' := [.int x4, .int x7]) (by decide +kernel) (by decide +kernel) (by decide +kernel) rfl rfl rfl h
      refine ⟨r11, w12, hc, fun x13 er hSw12 => ?_⟩
      subst er
      have h : PS X k 85 82 [.ref o0, .int i1, .int i2, .int i3, .int i4, .int x4, .int x7] [.int x13, .ref (gR w9 o0 3), .int 0, .int x10, .ref (gR w6 o0 3)] w12 r w' := h
      obtain ⟨hi, h⟩ := sp_iald (by decide +kernel) h
      refine ⟨hi, ?_⟩
      have h := sp_onk (i := .iload_n 3) (by decide +kernel) rfl h
      have h := sp_onk (i := .isub) (by decide +kernel) rfl h
      have h := sp_max (j := 54) (by decide +kernel) (by decide +kernel) (by decide +kernel) h
      obtain ⟨hi, h⟩ := sp_iast (by decide +kernel) h
      refine ⟨hi, ?_⟩
      intro w14 ew14
      rw [← ew14] at h
      have hSw14 : SK w14 := by rw [ew14]; exact SK_aS hSw12
      have h := sp_iinc (j := 4) (n := 1) (v := 1) (ls' := [.ref o0, .int i1, .int i2, .int i3, .int (i4 + 1), .int x4, .int x7]) (by decide +kernel) rfl (by decide +kernel) rfl h
      have h := sp_goto (mi := 85) (pc := 92) (off := (-75)) (t := 17) (by decide +kernel) (by decide) rfl h
      exact h
    · refine ite_f hc ?_
      have h := sp_onk (i := .iload 4) (by decide +kernel) rfl h
      have h := sp_iconst (n := 1) (v := 1) (by decide +kernel) (by decide +kernel) h
      have h := sp_onk (i := .iadd) (by decide +kernel) rfl h
      have h := sp_goto (mi := 85) (pc := 49) (off := 4) (t := 53) (by decide +kernel) (by decide) rfl h
      have h := sp_onk (i := .iadd) (by decide +kernel) rfl h
      obtain ⟨r15, w16, hc, h⟩ := sp_callV (jj := 100) (mj := 84) (n := 2) (v := .ref o0) (args := [.int (4 + (i4 + 1)), .int i1]) (ls' := [.ref o0, .int i1, .int (4 + (i4 + 1))]) (by decide +kernel) (by decide +kernel) rfl rfl rfl h
      refine ⟨r15, w16, hc, fun x17 er hSw16 => ?_⟩
      subst er
      have h : PS X k 85 57 [.ref o0, .int i1, .int i2, .int i3, .int i4, .int x4, u6] [.int x17] w16 r w' := h
      have h := sp_istore (j := 6) (ls' := [.ref o0, .int i1, .int i2, .int i3, .int i4, .int x4, .int x17]) (by decide +kernel) (Nat.le_of_ble_eq_true rfl) rfl h
      have h := sp_onk (i := .aload_n 0) (by decide +kernel) rfl h
      have h := sp_getR (jj := 18) (ci := 7) (n := 3) (by decide +kernel) (by decide +kernel) (by decide +kernel) hSw16 h
      have h := sp_onk (i := .iload 5) (by decide +kernel) rfl h
      have h := sp_onk (i := .iload 6) (by decide +kernel) rfl h
      obtain ⟨r18, w19, hc, h⟩ := sp_callS (jj := 50) (mj := 52) (n := 2) (args := [.int x17, .int x4]) (ls' := [.int x4, .int x17]) (by decide +kernel) (by decide +kernel) (by decide +kernel) rfl rfl rfl h
      refine ⟨r18, w19, hc, fun x20 er hSw19 => ?_⟩
      subst er
      have h : PS X k 85 70 [.ref o0, .int i1, .int i2, .int i3, .int i4, .int x4, .int x17] [.int x20, .ref (gR w16 o0 3)] w19 r w' := h
      have h := sp_iconst (n := 0) (v := 0) (by decide +kernel) (by decide +kernel) h
      have h := sp_onk (i := .aload_n 0) (by decide +kernel) rfl h
      have h := sp_getR (jj := 18) (ci := 7) (n := 3) (by decide +kernel) (by decide +kernel) (by decide +kernel) hSw19 h
      have h := sp_onk (i := .iload 5) (by decide +kernel) rfl h
      have h := sp_onk (i := .iload 6) (by decide +kernel) rfl h
      obtain ⟨r21, w22, hc, h⟩ := sp_callS (jj := 50) (mj := 52) (n := 2) (args := [.int x17, .int x4]) (ls' := [.int x4, .int x17]) (by decide +kernel) (by decide +kernel) (by decide +kernel) rfl rfl rfl h
      refine ⟨r21, w22, hc, fun x23 er hSw22 => ?_⟩
      subst er
      have h : PS X k 85 82 [.ref o0, .int i1, .int i2, .int i3, .int i4, .int x4, .int x17] [.int x23, .ref (gR w19 o0 3), .int 0, .int x20, .ref (gR w16 o0 3)] w22 r w' := h
      obtain ⟨hi, h⟩ := sp_iald (by decide +kernel) h
      refine ⟨hi, ?_⟩
      have h := sp_onk (i := .iload_n 3) (by decide +kernel) rfl h
      have h := sp_onk (i := .isub) (by decide +kernel) rfl h
      have h := sp_max (j := 54) (by decide +kernel) (by decide +kernel) (by decide +kernel) h
      obtain ⟨hi, h⟩ := sp_iast (by decide +kernel) h
      refine ⟨hi, ?_⟩
      intro w24 ew24
      rw [← ew24] at h
      have hSw24 : SK w24 := by rw [ew24]; exact SK_aS hSw22
      have h := sp_iinc (j := 4) (n := 1) (v := 1) (ls' := [.ref o0, .int i1, .int i2, .int i3, .int (i4 + 1), .int x4, .int x17]) (by decide +kernel) rfl (by decide +kernel) rfl h
      have h := sp_goto (mi := 85) (pc := 92) (off := (-75)) (t := 17) (by decide +kernel) (by decide) rfl h
      exact h
set_option maxRecDepth 20000 in
set_option maxHeartbeats 2000000 in
theorem U86_0 {X : pm_X} {k : Nat} {w w' : pm_W} {r : Option Value} {a : Nat} {p1 : Int32} (hS : SK w) (h : PS X (k + 1) 86 0 [.ref a, .int p1, pm_dead] [] w r w') : ∃ (r1 : Option Value) (w2 : pm_W), PS X k 61 0 [.ref (gR w a 0), .int p1] [] w r1 w2 ∧ (∀ x3 : Int32, r1 = some (.int x3) → SK w2 → (if x3 = 0 then (r = some (.int 0) ∧ w' = w2) else (PS X k 86 15 [.ref a, .int p1, .int 0] [] w2 r w'))) := by
  have h := sp_one (i := .aload_n 0) (by decide +kernel) rfl h
  have h := sp_getR (jj := 12) (ci := 7) (n := 0) (by decide +kernel) (by decide +kernel) (by decide +kernel) hS h
  have h := sp_onk (i := .iload_n 1) (by decide +kernel) rfl h
  obtain ⟨r1, w2, hc, h⟩ := sp_callV (jj := 86) (mj := 61) (n := 1) (v := .ref (gR w a 0)) (args := [.int p1]) (ls' := [.ref (gR w a 0), .int p1]) (by decide +kernel) (by decide +kernel) rfl rfl rfl h
  refine ⟨r1, w2, hc, fun x3 er hSw2 => ?_⟩
  subst er
  have h : PS X k 86 8 [.ref a, .int p1, pm_dead] [.int x3] w2 r w' := h
  rcases sp_if_ne (mi := 86) (pc := 8) (off := 5) (t := 13) (by decide +kernel) (by decide) rfl h with ⟨hc, h⟩ | ⟨hc, h⟩
  · refine ite_f hc ?_
    have h := sp_iconst (n := 0) (v := 0) (by decide +kernel) (by decide +kernel) h
    have h := sp_istore_n (j := 2) (ls' := [.ref a, .int p1, .int 0]) (by decide +kernel) (Nat.le_of_ble_eq_true rfl) rfl h
    exact h
  · refine ite_t (Classical.not_not.mp hc) ?_
    have h := sp_iconst (n := 0) (v := 0) (by decide +kernel) (by decide +kernel) h
    exact sp_iret (by decide +kernel) h
set_option maxRecDepth 20000 in
set_option maxHeartbeats 2000000 in
theorem U86_15 {X : pm_X} {k : Nat} {w w' : pm_W} {r : Option Value} {o0 : Nat} {i1 : Int32} {i2 : Int32} (hS : SK w) (h : PS X (k + 1) 86 15 [.ref o0, .int i1, .int i2] [] w r w') : if (gI w o0 2) ≤ i2 then (PS X k 86 45 [.ref o0, .int i1, .int 0] [] w r w') else (∃ (r1 : Option Value) (w2 : pm_W), PS X k 87 0 [.ref o0, .int i2, .int i1] [] w r1 w2 ∧ (∀ x3 : Int32, r1 = some (.int x3) → SK w2 → (if x3 = 0 then (PS X k 86 15 [.ref o0, .int i1, .int (i2 + 1)] [] w2 r w') else (∃ (r4 : Option Value) (w5 : pm_W), PS X k 85 0 [.ref o0, .int i2, pm_dead, pm_dead, pm_dead, pm_dead, pm_dead] [] w2 r4 w5 ∧ (r4 = none → SK w5 → (PS X k 86 15 [.ref o0, .int i1, .int (i2 + 1)] [] w5 r w')))))) := by
  have h := sp_one (i := .iload_n 2) (by decide +kernel) rfl h
  have h := sp_onk (i := .aload_n 0) (by decide +kernel) rfl h
  have h := sp_getI (jj := 32) (ci := 7) (n := 2) (by decide +kernel) (by decide +kernel) (by decide +kernel) hS h
  rcases sp_icmp_ge (mi := 86) (pc := 20) (off := 23) (t := 43) (by decide +kernel) (by decide) rfl h with ⟨hc, h⟩ | ⟨hc, h⟩
  · refine ite_t hc ?_
    have h := sp_iconst (n := 0) (v := 0) (by decide +kernel) (by decide +kernel) h
    have h := sp_istore_n (j := 2) (ls' := [.ref o0, .int i1, .int 0]) (by decide +kernel) (Nat.le_of_ble_eq_true rfl) rfl h
    exact h
  · refine ite_f hc ?_
    have h := sp_onk (i := .aload_n 0) (by decide +kernel) rfl h
    have h := sp_onk (i := .iload_n 2) (by decide +kernel) rfl h
    have h := sp_onk (i := .iload_n 1) (by decide +kernel) rfl h
    obtain ⟨r1, w2, hc, h⟩ := sp_callV (jj := 118) (mj := 87) (n := 2) (v := .ref o0) (args := [.int i1, .int i2]) (ls' := [.ref o0, .int i2, .int i1]) (by decide +kernel) (by decide +kernel) rfl rfl rfl h
    refine ⟨r1, w2, hc, fun x3 er hSw2 => ?_⟩
    subst er
    have h : PS X k 86 29 [.ref o0, .int i1, .int i2] [.int x3] w2 r w' := h
    rcases sp_if_eq (mi := 86) (pc := 29) (off := 8) (t := 37) (by decide +kernel) (by decide) rfl h with ⟨hc, h⟩ | ⟨hc, h⟩
    · refine ite_t hc ?_
      have h := sp_iinc (j := 2) (n := 1) (v := 1) (ls' := [.ref o0, .int i1, .int (i2 + 1)]) (by decide +kernel) rfl (by decide +kernel) rfl h
      have h := sp_goto (mi := 86) (pc := 40) (off := (-25)) (t := 15) (by decide +kernel) (by decide) rfl h
      exact h
    · refine ite_f hc ?_
      have h := sp_onk (i := .aload_n 0) (by decide +kernel) rfl h
      have h := sp_onk (i := .iload_n 2) (by decide +kernel) rfl h
      obtain ⟨r4, w5, hc, h⟩ := sp_callV (jj := 114) (mj := 85) (n := 1) (v := .ref o0) (args := [.int i2]) (ls' := [.ref o0, .int i2, pm_dead, pm_dead, pm_dead, pm_dead, pm_dead]) (by decide +kernel) (by decide +kernel) rfl rfl rfl h
      refine ⟨r4, w5, hc, fun er hSw5 => ?_⟩
      subst er
      have h : PS X k 86 37 [.ref o0, .int i1, .int i2] [] w5 r w' := h
      have h := sp_iinc (j := 2) (n := 1) (v := 1) (ls' := [.ref o0, .int i1, .int (i2 + 1)]) (by decide +kernel) rfl (by decide +kernel) rfl h
      have h := sp_goto (mi := 86) (pc := 40) (off := (-25)) (t := 15) (by decide +kernel) (by decide) rfl h
      exact h
set_option maxRecDepth 20000 in
set_option maxHeartbeats 2000000 in
theorem U86_45 {X : pm_X} {k : Nat} {w w' : pm_W} {r : Option Value} {o0 : Nat} {i1 : Int32} {i2 : Int32} (hS : SK w) (h : PS X (k + 1) 86 45 [.ref o0, .int i1, .int i2] [] w r w') : if (gI w (gR w o0 0) 0) ≤ i2 then (r = some (.int 1) ∧ w' = w) else (∃ (r1 : Option Value) (w2 : pm_W), PS X k 52 0 [.int i1, .int i2] [] w r1 w2 ∧ (∀ x3 : Int32, r1 = some (.int x3) → SK w2 → (aI w2 (gR w o0 3) x3 ∧ (∀ w4 : pm_W, w4 = aS w2 (gR w o0 3) x3 0 → (∃ (r5 : Option Value) (w6 : pm_W), PS X k 52 0 [.int i2, .int i1] [] w4 r5 w6 ∧ (∀ x7 : Int32, r5 = some (.int x7) → SK w6 → (aI w6 (gR w4 o0 3) x7 ∧ (∀ w8 : pm_W, w8 = aS w6 (gR w4 o0 3) x7 0 → (PS X k 86 45 [.ref o0, .int i1, .int (i2 + 1)] [] w8 r w'))))))))) := by
  have h := sp_one (i := .iload_n 2) (by decide +kernel) rfl h
  have h := sp_onk (i := .aload_n 0) (by decide +kernel) rfl h
  have h := sp_getR (jj := 12) (ci := 7) (n := 0) (by decide +kernel) (by decide +kernel) (by decide +kernel) hS h
  have h := sp_getI (jj := 121) (ci := 9) (n := 0) (by decide +kernel) (by decide +kernel) (by decide +kernel) hS h
  rcases sp_icmp_ge (mi := 86) (pc := 53) (off := 31) (t := 84) (by decide +kernel) (by decide) rfl h with ⟨hc, h⟩ | ⟨hc, h⟩
  · refine ite_t hc ?_
    have h := sp_iconst (n := 1) (v := 1) (by decide +kernel) (by decide +kernel) h
    exact sp_iret (by decide +kernel) h
  · refine ite_f hc ?_
    have h := sp_onk (i := .aload_n 0) (by decide +kernel) rfl h
    have h := sp_getR (jj := 18) (ci := 7) (n := 3) (by decide +kernel) (by decide +kernel) (by decide +kernel) hS h
    have h := sp_onk (i := .iload_n 1) (by decide +kernel) rfl h
    have h := sp_onk (i := .iload_n 2) (by decide +kernel) rfl h
    obtain ⟨r1, w2, hc, h⟩ := sp_callS (jj := 50) (mj := 52) (n := 2) (args := [.int i2, .int i1]) (ls' := [.int i1, .int i2]) (by decide +kernel) (by decide +kernel) (by decide +kernel) rfl rfl rfl h
    refine ⟨r1, w2, hc, fun x3 er hSw2 => ?_⟩
    subst er
    have h : PS X k 86 65 [.ref o0, .int i1, .int i2] [.int x3, .ref (gR w o0 3)] w2 r w' := h
    have h := sp_iconst (n := 0) (v := 0) (by decide +kernel) (by decide +kernel) h
    obtain ⟨hi, h⟩ := sp_iast (by decide +kernel) h
    refine ⟨hi, ?_⟩
    intro w4 ew4
    rw [← ew4] at h
    have hSw4 : SK w4 := by rw [ew4]; exact SK_aS hSw2
    have h := sp_onk (i := .aload_n 0) (by decide +kernel) rfl h
    have h := sp_getR (jj := 18) (ci := 7) (n := 3) (by decide +kernel) (by decide +kernel) (by decide +kernel) hSw4 h
    have h := sp_onk (i := .iload_n 2) (by decide +kernel) rfl h
    have h := sp_onk (i := .iload_n 1) (by decide +kernel) rfl h
    obtain ⟨r5, w6, hc, h⟩ := sp_callS (jj := 50) (mj := 52) (n := 2) (args := [.int i1, .int i2]) (ls' := [.int i2, .int i1]) (by decide +kernel) (by decide +kernel) (by decide +kernel) rfl rfl rfl h
    refine ⟨r5, w6, hc, fun x7 er hSw6 => ?_⟩
    subst er
    have h : PS X k 86 76 [.ref o0, .int i1, .int i2] [.int x7, .ref (gR w4 o0 3)] w6 r w' := h
    have h := sp_iconst (n := 0) (v := 0) (by decide +kernel) (by decide +kernel) h
    obtain ⟨hi, h⟩ := sp_iast (by decide +kernel) h
    refine ⟨hi, ?_⟩
    intro w8 ew8
    rw [← ew8] at h
    have hSw8 : SK w8 := by rw [ew8]; exact SK_aS hSw6
    have h := sp_iinc (j := 2) (n := 1) (v := 1) (ls' := [.ref o0, .int i1, .int (i2 + 1)]) (by decide +kernel) rfl (by decide +kernel) rfl h
    have h := sp_goto (mi := 86) (pc := 81) (off := (-36)) (t := 45) (by decide +kernel) (by decide) rfl h
    exact h
set_option maxRecDepth 20000 in
set_option maxHeartbeats 2000000 in
theorem U87_0 {X : pm_X} {k : Nat} {w w' : pm_W} {r : Option Value} {a : Nat} {p1 : Int32} {p2 : Int32} (hS : SK w) (h : PS X (k + 1) 87 0 [.ref a, .int p1, .int p2] [] w r w') : ∃ (r1 : Option Value) (w2 : pm_W), PS X k 83 0 [.ref a, .int p1] [] w r1 w2 ∧ (∀ x3 : Int32, r1 = some (.int x3) → SK w2 → (if x3 = 0 then (r = some (.int 0) ∧ w' = w2) else (∃ (r4 : Option Value) (w5 : pm_W), PS X k 88 0 [.ref a, .int p1, pm_dead, pm_dead] [] w2 r4 w5 ∧ (∀ x6 : Int32, r4 = some (.int x6) → SK w5 → (∃ (r7 : Option Value) (w8 : pm_W), PS X k 89 0 [.int x6, .int p2] [] w5 r7 w8 ∧ (∀ x9 : Int32, r7 = some (.int x9) → SK w8 → (if x9 = 0 then (r = some (.int 0) ∧ w' = w8) else (r = some (.int 1) ∧ w' = w8)))))))) := by
  have h := sp_one (i := .aload_n 0) (by decide +kernel) rfl h
  have h := sp_onk (i := .iload_n 1) (by decide +kernel) rfl h
  obtain ⟨r1, w2, hc, h⟩ := sp_callV (jj := 103) (mj := 83) (n := 1) (v := .ref a) (args := [.int p1]) (ls' := [.ref a, .int p1]) (by decide +kernel) (by decide +kernel) rfl rfl rfl h
  refine ⟨r1, w2, hc, fun x3 er hSw2 => ?_⟩
  subst er
  have h : PS X k 87 5 [.ref a, .int p1, .int p2] [.int x3] w2 r w' := h
  rcases sp_if_eq (mi := 87) (pc := 5) (off := 19) (t := 24) (by decide +kernel) (by decide) rfl h with ⟨hc, h⟩ | ⟨hc, h⟩
  · refine ite_t hc ?_
    have h := sp_iconst (n := 0) (v := 0) (by decide +kernel) (by decide +kernel) h
    exact sp_iret (by decide +kernel) h
  · refine ite_f hc ?_
    have h := sp_onk (i := .aload_n 0) (by decide +kernel) rfl h
    have h := sp_onk (i := .iload_n 1) (by decide +kernel) rfl h
    obtain ⟨r4, w5, hc, h⟩ := sp_callV (jj := 106) (mj := 88) (n := 1) (v := .ref a) (args := [.int p1]) (ls' := [.ref a, .int p1, pm_dead, pm_dead]) (by decide +kernel) (by decide +kernel) rfl rfl rfl h
    refine ⟨r4, w5, hc, fun x6 er hSw5 => ?_⟩
    subst er
    have h : PS X k 87 13 [.ref a, .int p1, .int p2] [.int x6] w5 r w' := h
    have h := sp_onk (i := .iload_n 2) (by decide +kernel) rfl h
    obtain ⟨r7, w8, hc, h⟩ := sp_callS (jj := 110) (mj := 89) (n := 2) (args := [.int p2, .int x6]) (ls' := [.int x6, .int p2]) (by decide +kernel) (by decide +kernel) (by decide +kernel) rfl rfl rfl h
    refine ⟨r7, w8, hc, fun x9 er hSw8 => ?_⟩
    subst er
    have h : PS X k 87 17 [.ref a, .int p1, .int p2] [.int x9] w8 r w' := h
    rcases sp_if_eq (mi := 87) (pc := 17) (off := 7) (t := 24) (by decide +kernel) (by decide) rfl h with ⟨hc, h⟩ | ⟨hc, h⟩
    · refine ite_t hc ?_
      have h := sp_iconst (n := 0) (v := 0) (by decide +kernel) (by decide +kernel) h
      exact sp_iret (by decide +kernel) h
    · refine ite_f hc ?_
      have h := sp_iconst (n := 1) (v := 1) (by decide +kernel) (by decide +kernel) h
      have h := sp_goto (mi := 87) (pc := 21) (off := 4) (t := 25) (by decide +kernel) (by decide) rfl h
      exact sp_iret (by decide +kernel) h
set_option maxRecDepth 20000 in
set_option maxHeartbeats 2000000 in
theorem U88_0 {X : pm_X} {k : Nat} {w w' : pm_W} {r : Option Value} {a : Nat} {p1 : Int32} (hS : SK w) (h : PS X (k + 1) 88 0 [.ref a, .int p1, pm_dead, pm_dead] [] w r w') : PS X k 88 4 [.ref a, .int p1, .int 0, .int 0] [] w r w' := by
  have h := sp_iconst1 (n := 0) (v := 0) (by decide +kernel) (by decide +kernel) h
  have h := sp_istore_n (j := 2) (ls' := [.ref a, .int p1, .int 0, pm_dead]) (by decide +kernel) (Nat.le_of_ble_eq_true rfl) rfl h
  have h := sp_iconst (n := 0) (v := 0) (by decide +kernel) (by decide +kernel) h
  have h := sp_istore_n (j := 3) (ls' := [.ref a, .int p1, .int 0, .int 0]) (by decide +kernel) (Nat.le_of_ble_eq_true rfl) rfl h
  exact h
set_option maxRecDepth 20000 in
set_option maxHeartbeats 2000000 in
theorem U88_4 {X : pm_X} {k : Nat} {w w' : pm_W} {r : Option Value} {o0 : Nat} {i1 : Int32} {i2 : Int32} {i3 : Int32} (hS : SK w) (h : PS X (k + 1) 88 4 [.ref o0, .int i1, .int i2, .int i3] [] w r w') : ∃ (r1 : Option Value) (w2 : pm_W), PS X k 84 0 [.ref o0, .int i1, .int 0] [] w r1 w2 ∧ (∀ x3 : Int32, r1 = some (.int x3) → SK w2 → (if x3 ≤ i3 then (r = some (.int i2) ∧ w' = w2) else (∃ (r4 : Option Value) (w5 : pm_W), PS X k 84 0 [.ref o0, .int i1, .int (4 + i3)] [] w2 r4 w5 ∧ (∀ x6 : Int32, r4 = some (.int x6) → SK w5 → (PS X k 88 4 [.ref o0, .int i1, .int (i2 ||| (1 <<< (x6 &&& 31))), .int (i3 + 1)] [] w5 r w'))))) := by
  have h := sp_one (i := .iload_n 3) (by decide +kernel) rfl h
  have h := sp_onk (i := .aload_n 0) (by decide +kernel) rfl h
  have h := sp_onk (i := .iload_n 1) (by decide +kernel) rfl h
  have h := sp_iconst (n := 0) (v := 0) (by decide +kernel) (by decide +kernel) h
  obtain ⟨r1, w2, hc, h⟩ := sp_callV (jj := 100) (mj := 84) (n := 2) (v := .ref o0) (args := [.int 0, .int i1]) (ls' := [.ref o0, .int i1, .int 0]) (by decide +kernel) (by decide +kernel) rfl rfl rfl h
  refine ⟨r1, w2, hc, fun x3 er hSw2 => ?_⟩
  subst er
  have h : PS X k 88 11 [.ref o0, .int i1, .int i2, .int i3] [.int x3, .int i3] w2 r w' := h
  rcases sp_icmp_ge (mi := 88) (pc := 11) (off := 22) (t := 33) (by decide +kernel) (by decide) rfl h with ⟨hc, h⟩ | ⟨hc, h⟩
  · refine ite_t hc ?_
    have h := sp_onk (i := .iload_n 2) (by decide +kernel) rfl h
    exact sp_iret (by decide +kernel) h
  · refine ite_f hc ?_
    have h := sp_onk (i := .iload_n 2) (by decide +kernel) rfl h
    have h := sp_iconst (n := 1) (v := 1) (by decide +kernel) (by decide +kernel) h
    have h := sp_onk (i := .aload_n 0) (by decide +kernel) rfl h
    have h := sp_onk (i := .iload_n 1) (by decide +kernel) rfl h
    have h := sp_iconst (n := 4) (v := 4) (by decide +kernel) (by decide +kernel) h
    have h := sp_onk (i := .iload_n 3) (by decide +kernel) rfl h
    have h := sp_onk (i := .iadd) (by decide +kernel) rfl h
    obtain ⟨r4, w5, hc, h⟩ := sp_callV (jj := 100) (mj := 84) (n := 2) (v := .ref o0) (args := [.int (4 + i3), .int i1]) (ls' := [.ref o0, .int i1, .int (4 + i3)]) (by decide +kernel) (by decide +kernel) rfl rfl rfl h
    refine ⟨r4, w5, hc, fun x6 er hSw5 => ?_⟩
    subst er
    have h : PS X k 88 24 [.ref o0, .int i1, .int i2, .int i3] [.int x6, .int 1, .int i2] w5 r w' := h
    have h := sp_onk (i := .ishl) (by decide +kernel) rfl h
    have h := sp_onk (i := .ior) (by decide +kernel) rfl h
    have h := sp_istore_n (j := 2) (ls' := [.ref o0, .int i1, .int (i2 ||| (1 <<< (x6 &&& 31))), .int i3]) (by decide +kernel) (Nat.le_of_ble_eq_true rfl) rfl h
    have h := sp_iinc (j := 3) (n := 1) (v := 1) (ls' := [.ref o0, .int i1, .int (i2 ||| (1 <<< (x6 &&& 31))), .int (i3 + 1)]) (by decide +kernel) rfl (by decide +kernel) rfl h
    have h := sp_goto (mi := 88) (pc := 30) (off := (-26)) (t := 4) (by decide +kernel) (by decide) rfl h
    exact h
set_option maxRecDepth 20000 in
set_option maxHeartbeats 2000000 in
theorem U89_0 {X : pm_X} {k : Nat} {w w' : pm_W} {r : Option Value} {p1 : Int32} {p2 : Int32} (hS : SK w) (h : PS X (k + 1) 89 0 [.int p1, .int p2] [] w r w') : if ((p1 >>> (p2 &&& 31)) &&& 1) = 0 then (r = some (.int 0) ∧ w' = w) else (r = some (.int 1) ∧ w' = w) := by
  have h := sp_one (i := .iload_n 0) (by decide +kernel) rfl h
  have h := sp_onk (i := .iload_n 1) (by decide +kernel) rfl h
  have h := sp_onk (i := .ishr) (by decide +kernel) rfl h
  have h := sp_iconst (n := 1) (v := 1) (by decide +kernel) (by decide +kernel) h
  have h := sp_onk (i := .iand) (by decide +kernel) rfl h
  rcases sp_if_eq (mi := 89) (pc := 5) (off := 7) (t := 12) (by decide +kernel) (by decide) rfl h with ⟨hc, h⟩ | ⟨hc, h⟩
  · refine ite_t hc ?_
    have h := sp_iconst (n := 0) (v := 0) (by decide +kernel) (by decide +kernel) h
    exact sp_iret (by decide +kernel) h
  · refine ite_f hc ?_
    have h := sp_iconst (n := 1) (v := 1) (by decide +kernel) (by decide +kernel) h
    have h := sp_goto (mi := 89) (pc := 9) (off := 4) (t := 13) (by decide +kernel) (by decide) rfl h
    exact sp_iret (by decide +kernel) h
set_option maxRecDepth 20000 in
set_option maxHeartbeats 2000000 in
theorem U90_0 {X : pm_X} {k : Nat} {w w' : pm_W} {r : Option Value} {a : Nat} (hS : SK w) (h : PS X (k + 1) 90 0 [.ref a, pm_dead] [] w r w') : ∀ w1 : pm_W, w1 = sI w a 1 ((gI w a 1) + 1) → (PS X k 90 12 [.ref a, .int 0] [] w1 r w') := by
  have h := sp_one (i := .aload_n 0) (by decide +kernel) rfl h
  have h := sp_onk (i := .dup) (by decide +kernel) rfl h
  have h := sp_getI (jj := 28) (ci := 7) (n := 1) (by decide +kernel) (by decide +kernel) (by decide +kernel) hS h
  have h := sp_iconst (n := 1) (v := 1) (by decide +kernel) (by decide +kernel) h
  have h := sp_onk (i := .iadd) (by decide +kernel) rfl h
  have h := sp_putI (jj := 28) (ci := 7) (n := 1) (ty := .int) (by decide +kernel) (by decide +kernel) (by decide +kernel) hS h
  intro w1 ew1
  rw [← ew1] at h
  have hSw1 : SK w1 := by rw [ew1]; exact SK_sI hS
  have h := sp_iconst (n := 0) (v := 0) (by decide +kernel) (by decide +kernel) h
  have h := sp_istore_n (j := 1) (ls' := [.ref a, .int 0]) (by decide +kernel) (Nat.le_of_ble_eq_true rfl) rfl h
  exact h
set_option maxRecDepth 20000 in
set_option maxHeartbeats 2000000 in
theorem U90_12 {X : pm_X} {k : Nat} {w w' : pm_W} {r : Option Value} {o0 : Nat} {i1 : Int32} (hS : SK w) (h : PS X (k + 1) 90 12 [.ref o0, .int i1] [] w r w') : if (gI w o0 2) ≤ i1 then (r = some (.int 1) ∧ w' = w) else (∃ (r1 : Option Value) (w2 : pm_W), PS X k 83 0 [.ref o0, .int i1] [] w r1 w2 ∧ (∀ x3 : Int32, r1 = some (.int x3) → SK w2 → (if x3 = 0 then (PS X k 90 12 [.ref o0, .int (i1 + 1)] [] w2 r w') else (∃ (r4 : Option Value) (w5 : pm_W), PS X k 84 0 [.ref o0, .int i1, .int 2] [] w2 r4 w5 ∧ (∀ x6 : Int32, r4 = some (.int x6) → SK w5 → (if (gI w5 o0 1) ≤ x6 then (PS X k 90 12 [.ref o0, .int (i1 + 1)] [] w5 r w') else (∃ (r7 : Option Value) (w8 : pm_W), PS X k 85 0 [.ref o0, .int i1, pm_dead, pm_dead, pm_dead, pm_dead, pm_dead] [] w5 r7 w8 ∧ (r7 = none → SK w8 → (PS X k 90 12 [.ref o0, .int (i1 + 1)] [] w8 r w'))))))))) := by
  have h := sp_one (i := .iload_n 1) (by decide +kernel) rfl h
  have h := sp_onk (i := .aload_n 0) (by decide +kernel) rfl h
  have h := sp_getI (jj := 32) (ci := 7) (n := 2) (by decide +kernel) (by decide +kernel) (by decide +kernel) hS h
  rcases sp_icmp_ge (mi := 90) (pc := 17) (off := 35) (t := 52) (by decide +kernel) (by decide) rfl h with ⟨hc, h⟩ | ⟨hc, h⟩
  · refine ite_t hc ?_
    have h := sp_iconst (n := 1) (v := 1) (by decide +kernel) (by decide +kernel) h
    exact sp_iret (by decide +kernel) h
  · refine ite_f hc ?_
    have h := sp_onk (i := .aload_n 0) (by decide +kernel) rfl h
    have h := sp_onk (i := .iload_n 1) (by decide +kernel) rfl h
    obtain ⟨r1, w2, hc, h⟩ := sp_callV (jj := 103) (mj := 83) (n := 1) (v := .ref o0) (args := [.int i1]) (ls' := [.ref o0, .int i1]) (by decide +kernel) (by decide +kernel) rfl rfl rfl h
    refine ⟨r1, w2, hc, fun x3 er hSw2 => ?_⟩
    subst er
    have h : PS X k 90 25 [.ref o0, .int i1] [.int x3] w2 r w' := h
    rcases sp_if_eq (mi := 90) (pc := 25) (off := 21) (t := 46) (by decide +kernel) (by decide) rfl h with ⟨hc, h⟩ | ⟨hc, h⟩
    · refine ite_t hc ?_
      have h := sp_iinc (j := 1) (n := 1) (v := 1) (ls' := [.ref o0, .int (i1 + 1)]) (by decide +kernel) rfl (by decide +kernel) rfl h
      have h := sp_goto (mi := 90) (pc := 49) (off := (-37)) (t := 12) (by decide +kernel) (by decide) rfl h
      exact h
    · refine ite_f hc ?_
      have h := sp_onk (i := .aload_n 0) (by decide +kernel) rfl h
      have h := sp_onk (i := .iload_n 1) (by decide +kernel) rfl h
      have h := sp_iconst (n := 2) (v := 2) (by decide +kernel) (by decide +kernel) h
      obtain ⟨r4, w5, hc, h⟩ := sp_callV (jj := 100) (mj := 84) (n := 2) (v := .ref o0) (args := [.int 2, .int i1]) (ls' := [.ref o0, .int i1, .int 2]) (by decide +kernel) (by decide +kernel) rfl rfl rfl h
      refine ⟨r4, w5, hc, fun x6 er hSw5 => ?_⟩
      subst er
      have h : PS X k 90 34 [.ref o0, .int i1] [.int x6] w5 r w' := h
      have h := sp_onk (i := .aload_n 0) (by decide +kernel) rfl h
      have h := sp_getI (jj := 28) (ci := 7) (n := 1) (by decide +kernel) (by decide +kernel) (by decide +kernel) hSw5 h
      rcases sp_icmp_ge (mi := 90) (pc := 38) (off := 8) (t := 46) (by decide +kernel) (by decide) rfl h with ⟨hc, h⟩ | ⟨hc, h⟩
      · refine ite_t hc ?_
        have h := sp_iinc (j := 1) (n := 1) (v := 1) (ls' := [.ref o0, .int (i1 + 1)]) (by decide +kernel) rfl (by decide +kernel) rfl h
        have h := sp_goto (mi := 90) (pc := 49) (off := (-37)) (t := 12) (by decide +kernel) (by decide) rfl h
        exact h
      · refine ite_f hc ?_
        have h := sp_onk (i := .aload_n 0) (by decide +kernel) rfl h
        have h := sp_onk (i := .iload_n 1) (by decide +kernel) rfl h
        obtain ⟨r7, w8, hc, h⟩ := sp_callV (jj := 114) (mj := 85) (n := 1) (v := .ref o0) (args := [.int i1]) (ls' := [.ref o0, .int i1, pm_dead, pm_dead, pm_dead, pm_dead, pm_dead]) (by decide +kernel) (by decide +kernel) rfl rfl rfl h
        refine ⟨r7, w8, hc, fun er hSw8 => ?_⟩
        subst er
        have h : PS X k 90 46 [.ref o0, .int i1] [] w8 r w' := h
        have h := sp_iinc (j := 1) (n := 1) (v := 1) (ls' := [.ref o0, .int (i1 + 1)]) (by decide +kernel) rfl (by decide +kernel) rfl h
        have h := sp_goto (mi := 90) (pc := 49) (off := (-37)) (t := 12) (by decide +kernel) (by decide) rfl h
        exact h
set_option maxRecDepth 20000 in
set_option maxHeartbeats 2000000 in
theorem U97_0 {X : pm_X} {k : Nat} {w w' : pm_W} {r : Option Value} {p1 : Int32} {p2 : Int32} {p3 : Int32} {p4 : Int32} {p5 : Int32} (hS : SK w) (h : PS X (k + 1) 97 0 [.ref 0, .int p1, .int p2, .int p3, .int p4, .int p5] [] w r w') : ∃ (r1 : Option Value) (w2 : pm_W), PS X k 98 0 [.ref 0, .int p1, .int p2, .int p3, pm_dead, pm_dead, pm_dead] [] w r1 w2 ∧ (∀ x3 : Int32, r1 = some (.int x3) → SK w2 → (if x3 = 0 then (r = some (.int 0) ∧ w' = w2) else (∃ (r4 : Option Value) (w5 : pm_W), PS X k 61 0 [.ref (gR w2 33 0), .int p4] [] w2 r4 w5 ∧ (∀ x6 : Int32, r4 = some (.int x6) → SK w5 → (if x6 = 0 then (r = some (.int 0) ∧ w' = w5) else (∃ (r7 : Option Value) (w8 : pm_W), PS X k 61 0 [.ref (gR w5 33 0), .int p5] [] w5 r7 w8 ∧ (∀ x9 : Int32, r7 = some (.int x9) → SK w8 → (if x9 = 0 then (r = some (.int 0) ∧ w' = w8) else (r = some (.int 1) ∧ w' = w8))))))))) := by
  have h := sp_one (i := .aload_n 0) (by decide +kernel) rfl h
  have h := sp_onk (i := .iload_n 1) (by decide +kernel) rfl h
  have h := sp_onk (i := .iload_n 2) (by decide +kernel) rfl h
  have h := sp_onk (i := .iload_n 3) (by decide +kernel) rfl h
  obtain ⟨r1, w2, hc, h⟩ := sp_callV (jj := 201) (mj := 98) (n := 3) (v := .ref 0) (args := [.int p3, .int p2, .int p1]) (ls' := [.ref 0, .int p1, .int p2, .int p3, pm_dead, pm_dead, pm_dead]) (by decide +kernel) (by decide +kernel) rfl rfl rfl h
  refine ⟨r1, w2, hc, fun x3 er hSw2 => ?_⟩
  subst er
  have h : PS X k 97 7 [.ref 0, .int p1, .int p2, .int p3, .int p4, .int p5] [.int x3] w2 r w' := h
  rcases sp_if_eq (mi := 97) (pc := 7) (off := 37) (t := 44) (by decide +kernel) (by decide) rfl h with ⟨hc, h⟩ | ⟨hc, h⟩
  · refine ite_t hc ?_
    have h := sp_iconst (n := 0) (v := 0) (by decide +kernel) (by decide +kernel) h
    exact sp_iret (by decide +kernel) h
  · refine ite_f hc ?_
    have h := sp_onk (i := .aload_n 0) (by decide +kernel) rfl h
    have h := sp_getK (jj := 34) (ci := 11) (n := 4) (b := 33) (by decide +kernel) (by decide +kernel) (by decide +kernel) (by decide +kernel) (by decide) hSw2 h
    have h := sp_getR (jj := 287) (ci := 7) (n := 0) (by decide +kernel) (by decide +kernel) (by decide +kernel) hSw2 h
    have h := sp_onk (i := .iload 4) (by decide +kernel) rfl h
    obtain ⟨r4, w5, hc, h⟩ := sp_callV (jj := 126) (mj := 61) (n := 1) (v := .ref (gR w2 33 0)) (args := [.int p4]) (ls' := [.ref (gR w2 33 0), .int p4]) (by decide +kernel) (by decide +kernel) rfl rfl rfl h
    refine ⟨r4, w5, hc, fun x6 er hSw5 => ?_⟩
    subst er
    have h : PS X k 97 22 [.ref 0, .int p1, .int p2, .int p3, .int p4, .int p5] [.int x6] w5 r w' := h
    rcases sp_if_eq (mi := 97) (pc := 22) (off := 22) (t := 44) (by decide +kernel) (by decide) rfl h with ⟨hc, h⟩ | ⟨hc, h⟩
    · refine ite_t hc ?_
      have h := sp_iconst (n := 0) (v := 0) (by decide +kernel) (by decide +kernel) h
      exact sp_iret (by decide +kernel) h
    · refine ite_f hc ?_
      have h := sp_onk (i := .aload_n 0) (by decide +kernel) rfl h
      have h := sp_getK (jj := 34) (ci := 11) (n := 4) (b := 33) (by decide +kernel) (by decide +kernel) (by decide +kernel) (by decide +kernel) (by decide) hSw5 h
      have h := sp_getR (jj := 287) (ci := 7) (n := 0) (by decide +kernel) (by decide +kernel) (by decide +kernel) hSw5 h
      have h := sp_onk (i := .iload 5) (by decide +kernel) rfl h
      obtain ⟨r7, w8, hc, h⟩ := sp_callV (jj := 126) (mj := 61) (n := 1) (v := .ref (gR w5 33 0)) (args := [.int p5]) (ls' := [.ref (gR w5 33 0), .int p5]) (by decide +kernel) (by decide +kernel) rfl rfl rfl h
      refine ⟨r7, w8, hc, fun x9 er hSw8 => ?_⟩
      subst er
      have h : PS X k 97 37 [.ref 0, .int p1, .int p2, .int p3, .int p4, .int p5] [.int x9] w8 r w' := h
      rcases sp_if_eq (mi := 97) (pc := 37) (off := 7) (t := 44) (by decide +kernel) (by decide) rfl h with ⟨hc, h⟩ | ⟨hc, h⟩
      · refine ite_t hc ?_
        have h := sp_iconst (n := 0) (v := 0) (by decide +kernel) (by decide +kernel) h
        exact sp_iret (by decide +kernel) h
      · refine ite_f hc ?_
        have h := sp_iconst (n := 1) (v := 1) (by decide +kernel) (by decide +kernel) h
        have h := sp_goto (mi := 97) (pc := 41) (off := 4) (t := 45) (by decide +kernel) (by decide) rfl h
        exact sp_iret (by decide +kernel) h
set_option maxRecDepth 20000 in
set_option maxHeartbeats 2000000 in
theorem U98_0 {X : pm_X} {k : Nat} {w w' : pm_W} {r : Option Value} {p1 : Int32} {p2 : Int32} {p3 : Int32} (hS : SK w) (h : PS X (k + 1) 98 0 [.ref 0, .int p1, .int p2, .int p3, pm_dead, pm_dead, pm_dead] [] w r w') : ∃ (r1 : Option Value) (w2 : pm_W), PS X k 60 0 [.ref 1, .int p1] [] w r1 w2 ∧ (r1 = some .null → SK w2 → (r = some (.int 0) ∧ w' = w2)) ∧ (∀ b3 : Nat, r1 = some (.ref b3) → SK w2 → (∃ (r4 : Option Value) (w5 : pm_W), PS X k 74 0 [.ref 33, .ref b3] [] w2 r4 w5 ∧ (r4 = none → SK w5 → (if p2 = (-1) then (if p3 = 0 then (r = some (.int 1) ∧ w' = w5) else (r = some (.int 0) ∧ w' = w5)) else (∃ (r6 : Option Value) (w7 : pm_W), PS X k 67 0 [.ref 1, .int p2] [] w5 r6 w7 ∧ (r6 = some .null → SK w7 → (r = some (.int 0) ∧ w' = w7)) ∧ (∀ b8 : Nat, r6 = some (.ref b8) → SK w7 → (if p3 < 0 then (r = some (.int 0) ∧ w' = w7) else (if p3 ≤ (gI w7 b8 0) then (PS X k 98 74 [.ref 0, .int p1, .int p2, .int p3, .ref b3, .ref b8, .int 0] [] w7 r w') else (r = some (.int 0) ∧ w' = w7))))))))) := by
  have h := sp_one (i := .aload_n 0) (by decide +kernel) rfl h
  have h := sp_getK (jj := 12) (ci := 11) (n := 0) (b := 1) (by decide +kernel) (by decide +kernel) (by decide +kernel) (by decide +kernel) (by decide) hS h
  have h := sp_onk (i := .iload_n 1) (by decide +kernel) rfl h
  obtain ⟨r1, w2, hc, h⟩ := sp_callV (jj := 111) (mj := 60) (n := 1) (v := .ref 1) (args := [.int p1]) (ls' := [.ref 1, .int p1]) (by decide +kernel) (by decide +kernel) rfl rfl rfl h
  refine ⟨r1, w2, hc, fun er hSw2 => ?_, fun b3 er hSw2 => ?_⟩
  · subst er
    have h : PS X k 98 8 [.ref 0, .int p1, .int p2, .int p3, pm_dead, pm_dead, pm_dead] [.null] w2 r w' := h
    have h := (sp_astore (j := 4) (ls' := [.ref 0, .int p1, .int p2, .int p3, .null, pm_dead, pm_dead]) (by decide +kernel) rfl h).2
    have h := sp_onk (i := .aload 4) (by decide +kernel) rfl h
    have h := sp_onk (i := .ifnonnull 5) (by decide +kernel) rfl h
    have h := sp_iconst (n := 0) (v := 0) (by decide +kernel) (by decide +kernel) h
    exact sp_iret (by decide +kernel) h
  · subst er
    have h : PS X k 98 8 [.ref 0, .int p1, .int p2, .int p3, pm_dead, pm_dead, pm_dead] [.ref b3] w2 r w' := h
    have h := (sp_astore (j := 4) (ls' := [.ref 0, .int p1, .int p2, .int p3, .ref b3, pm_dead, pm_dead]) (by decide +kernel) rfl h).2
    have h := sp_onk (i := .aload 4) (by decide +kernel) rfl h
    have h := sp_ifnonnullR (mi := 98) (pc := 12) (off := 5) (t := 17) (by decide +kernel) (by decide) rfl h
    have h := sp_onk (i := .aload_n 0) (by decide +kernel) rfl h
    have h := sp_getK (jj := 34) (ci := 11) (n := 4) (b := 33) (by decide +kernel) (by decide +kernel) (by decide +kernel) (by decide +kernel) (by decide) hSw2 h
    have h := sp_onk (i := .aload 4) (by decide +kernel) rfl h
    obtain ⟨r4, w5, hc, h⟩ := sp_callV (jj := 170) (mj := 74) (n := 1) (v := .ref 33) (args := [.ref b3]) (ls' := [.ref 33, .ref b3]) (by decide +kernel) (by decide +kernel) rfl rfl rfl h
    refine ⟨r4, w5, hc, fun er hSw5 => ?_⟩
    subst er
    have h : PS X k 98 26 [.ref 0, .int p1, .int p2, .int p3, .ref b3, pm_dead, pm_dead] [] w5 r w' := h
    have h := sp_onk (i := .iload_n 2) (by decide +kernel) rfl h
    have h := sp_iconst (n := (-1)) (v := (-1)) (by decide +kernel) (by decide +kernel) h
    rcases sp_icmp_ne (mi := 98) (pc := 28) (off := 13) (t := 41) (by decide +kernel) (by decide) rfl h with ⟨hc, h⟩ | ⟨hc, h⟩
    · refine ite_f hc ?_
      have h := sp_onk (i := .aload_n 0) (by decide +kernel) rfl h
      have h := sp_getK (jj := 12) (ci := 11) (n := 0) (b := 1) (by decide +kernel) (by decide +kernel) (by decide +kernel) (by decide +kernel) (by decide) hSw5 h
      have h := sp_onk (i := .iload_n 2) (by decide +kernel) rfl h
      obtain ⟨r6, w7, hc, h⟩ := sp_callV (jj := 148) (mj := 67) (n := 1) (v := .ref 1) (args := [.int p2]) (ls' := [.ref 1, .int p2]) (by decide +kernel) (by decide +kernel) rfl rfl rfl h
      refine ⟨r6, w7, hc, fun er hSw7 => ?_, fun b8 er hSw7 => ?_⟩
      · subst er
        have h : PS X k 98 49 [.ref 0, .int p1, .int p2, .int p3, .ref b3, pm_dead, pm_dead] [.null] w7 r w' := h
        have h := (sp_astore (j := 5) (ls' := [.ref 0, .int p1, .int p2, .int p3, .ref b3, .null, pm_dead]) (by decide +kernel) rfl h).2
        have h := sp_onk (i := .aload 5) (by decide +kernel) rfl h
        have h := sp_ifnullN (mi := 98) (pc := 53) (off := 16) (t := 69) (by decide +kernel) (by decide) rfl h
        have h := sp_iconst (n := 0) (v := 0) (by decide +kernel) (by decide +kernel) h
        exact sp_iret (by decide +kernel) h
      · subst er
        have h : PS X k 98 49 [.ref 0, .int p1, .int p2, .int p3, .ref b3, pm_dead, pm_dead] [.ref b8] w7 r w' := h
        have h := (sp_astore (j := 5) (ls' := [.ref 0, .int p1, .int p2, .int p3, .ref b3, .ref b8, pm_dead]) (by decide +kernel) rfl h).2
        have h := sp_onk (i := .aload 5) (by decide +kernel) rfl h
        have h := sp_onk (i := .ifnull 16) (by decide +kernel) rfl h
        have h := sp_onk (i := .iload_n 3) (by decide +kernel) rfl h
        rcases sp_if_lt (mi := 98) (pc := 57) (off := 12) (t := 69) (by decide +kernel) (by decide) rfl h with ⟨hc, h⟩ | ⟨hc, h⟩
        · refine ite_t hc ?_
          have h := sp_iconst (n := 0) (v := 0) (by decide +kernel) (by decide +kernel) h
          exact sp_iret (by decide +kernel) h
        · refine ite_f hc ?_
          have h := sp_onk (i := .iload_n 3) (by decide +kernel) rfl h
          have h := sp_onk (i := .aload 5) (by decide +kernel) rfl h
          have h := sp_getI (jj := 152) (ci := 5) (n := 0) (by decide +kernel) (by decide +kernel) (by decide +kernel) hSw7 h
          rcases sp_icmp_le (mi := 98) (pc := 66) (off := 5) (t := 71) (by decide +kernel) (by decide) rfl h with ⟨hc, h⟩ | ⟨hc, h⟩
          · refine ite_t hc ?_
            have h := sp_iconst (n := 0) (v := 0) (by decide +kernel) (by decide +kernel) h
            have h := sp_istore (j := 6) (ls' := [.ref 0, .int p1, .int p2, .int p3, .ref b3, .ref b8, .int 0]) (by decide +kernel) (Nat.le_of_ble_eq_true rfl) rfl h
            exact h
          · refine ite_f hc ?_
            have h := sp_iconst (n := 0) (v := 0) (by decide +kernel) (by decide +kernel) h
            exact sp_iret (by decide +kernel) h
    · refine ite_t (Classical.not_not.mp hc) ?_
      have h := sp_onk (i := .iload_n 3) (by decide +kernel) rfl h
      rcases sp_if_ne (mi := 98) (pc := 32) (off := 7) (t := 39) (by decide +kernel) (by decide) rfl h with ⟨hc, h⟩ | ⟨hc, h⟩
      · refine ite_f hc ?_
        have h := sp_iconst (n := 0) (v := 0) (by decide +kernel) (by decide +kernel) h
        exact sp_iret (by decide +kernel) h
      · refine ite_t (Classical.not_not.mp hc) ?_
        have h := sp_iconst (n := 1) (v := 1) (by decide +kernel) (by decide +kernel) h
        have h := sp_goto (mi := 98) (pc := 36) (off := 4) (t := 40) (by decide +kernel) (by decide) rfl h
        exact sp_iret (by decide +kernel) h
set_option maxRecDepth 20000 in
set_option maxHeartbeats 2000000 in
theorem U98_74 {X : pm_X} {k : Nat} {w w' : pm_W} {r : Option Value} {i1 : Int32} {i2 : Int32} {i3 : Int32} {o4 : Nat} {o5 : Nat} {i6 : Int32} (hS : SK w) (h : PS X (k + 1) 98 74 [.ref 0, .int i1, .int i2, .int i3, .ref o4, .ref o5, .int i6] [] w r w') : if i3 ≤ i6 then (r = some (.int 1) ∧ w' = w) else (∃ (r1 : Option Value) (w2 : pm_W), PS X k 75 0 [.ref 33, .ref o5, .int i6, pm_dead, pm_dead, pm_dead] [] w r1 w2 ∧ (∀ x3 : Int32, r1 = some (.int x3) → SK w2 → (if x3 = 0 then (r = some (.int 0) ∧ w' = w2) else (PS X k 98 74 [.ref 0, .int i1, .int i2, .int i3, .ref o4, .ref o5, .int (i6 + 1)] [] w2 r w')))) := by
  have h := sp_one (i := .iload 6) (by decide +kernel) rfl h
  have h := sp_onk (i := .iload_n 3) (by decide +kernel) rfl h
  rcases sp_icmp_ge (mi := 98) (pc := 77) (off := 25) (t := 102) (by decide +kernel) (by decide) rfl h with ⟨hc, h⟩ | ⟨hc, h⟩
  · refine ite_t hc ?_
    have h := sp_iconst (n := 1) (v := 1) (by decide +kernel) (by decide +kernel) h
    exact sp_iret (by decide +kernel) h
  · refine ite_f hc ?_
    have h := sp_onk (i := .aload_n 0) (by decide +kernel) rfl h
    have h := sp_getK (jj := 34) (ci := 11) (n := 4) (b := 33) (by decide +kernel) (by decide +kernel) (by decide +kernel) (by decide +kernel) (by decide) hS h
    have h := sp_onk (i := .aload 5) (by decide +kernel) rfl h
    have h := sp_onk (i := .iload 6) (by decide +kernel) rfl h
    obtain ⟨r1, w2, hc, h⟩ := sp_callV (jj := 174) (mj := 75) (n := 2) (v := .ref 33) (args := [.int i6, .ref o5]) (ls' := [.ref 33, .ref o5, .int i6, pm_dead, pm_dead, pm_dead]) (by decide +kernel) (by decide +kernel) rfl rfl rfl h
    refine ⟨r1, w2, hc, fun x3 er hSw2 => ?_⟩
    subst er
    have h : PS X k 98 91 [.ref 0, .int i1, .int i2, .int i3, .ref o4, .ref o5, .int i6] [.int x3] w2 r w' := h
    rcases sp_if_ne (mi := 98) (pc := 91) (off := 5) (t := 96) (by decide +kernel) (by decide) rfl h with ⟨hc, h⟩ | ⟨hc, h⟩
    · refine ite_f hc ?_
      have h := sp_iinc (j := 6) (n := 1) (v := 1) (ls' := [.ref 0, .int i1, .int i2, .int i3, .ref o4, .ref o5, .int (i6 + 1)]) (by decide +kernel) rfl (by decide +kernel) rfl h
      have h := sp_goto (mi := 98) (pc := 99) (off := (-25)) (t := 74) (by decide +kernel) (by decide) rfl h
      exact h
    · refine ite_t (Classical.not_not.mp hc) ?_
      have h := sp_iconst (n := 0) (v := 0) (by decide +kernel) (by decide +kernel) h
      exact sp_iret (by decide +kernel) h
set_option maxRecDepth 20000 in
set_option maxHeartbeats 2000000 in
theorem U228_0 {X : pm_X} {k : Nat} {w w' : pm_W} {r : Option Value} {p1 : Int32} {p2 : Int32} {p3 : Int32} (hS : SK w) (h : PS X (k + 1) 228 0 [.ref 147, .int p1, .int p2, .int p3, pm_dead] [] w r w') : ∃ (r1 : Option Value) (w2 : pm_W), PS X k 229 0 [.ref 147, pm_dead] [] w r1 w2 ∧ (r1 = none → SK w2 → (∀ w3 : pm_W, w3 = sI w2 147 16 (-1) → (PS X k 228 12 [.ref 147, .int p1, .int p2, .int p3, .int 0] [] w3 r w'))) := by
  have h := sp_one (i := .aload_n 0) (by decide +kernel) rfl h
  obtain ⟨r1, w2, hc, h⟩ := sp_callV (jj := 214) (mj := 229) (n := 0) (v := .ref 147) (args := []) (ls' := [.ref 147, pm_dead]) (by decide +kernel) (by decide +kernel) rfl rfl rfl h
  refine ⟨r1, w2, hc, fun er hSw2 => ?_⟩
  subst er
  have h : PS X k 228 4 [.ref 147, .int p1, .int p2, .int p3, pm_dead] [] w2 r w' := h
  have h := sp_onk (i := .aload_n 0) (by decide +kernel) rfl h
  have h := sp_iconst (n := (-1)) (v := (-1)) (by decide +kernel) (by decide +kernel) h
  have h := sp_putI (jj := 217) (ci := 12) (n := 16) (ty := .int) (by decide +kernel) (by decide +kernel) (by decide +kernel) hSw2 h
  intro w3 ew3
  rw [← ew3] at h
  have hSw3 : SK w3 := by rw [ew3]; exact SK_sI hSw2
  have h := sp_iconst (n := 0) (v := 0) (by decide +kernel) (by decide +kernel) h
  have h := sp_istore (j := 4) (ls' := [.ref 147, .int p1, .int p2, .int p3, .int 0]) (by decide +kernel) (Nat.le_of_ble_eq_true rfl) rfl h
  exact h
set_option maxRecDepth 20000 in
set_option maxHeartbeats 2000000 in
theorem U228_12 {X : pm_X} {k : Nat} {w w' : pm_W} {r : Option Value} {i1 : Int32} {i2 : Int32} {i3 : Int32} {i4 : Int32} (hS : SK w) (h : PS X (k + 1) 228 12 [.ref 147, .int i1, .int i2, .int i3, .int i4] [] w r w') : if i3 ≤ i4 then (r = some (.int i4) ∧ w' = w) else (∃ (r1 : Option Value) (w2 : pm_W), PS X k 217 0 [.int 1, .int i2] [] w r1 w2 ∧ (∀ x3 : Int32, r1 = some (.int x3) → SK w2 → (aI w2 148 x3 ∧ (if (aG w2 148 x3) ≤ i4 then (r = some (.int i4) ∧ w' = w2) else (∃ (r4 : Option Value) (w5 : pm_W), PS X k 217 0 [.int 1, .int i2] [] w2 r4 w5 ∧ (∀ x6 : Int32, r4 = some (.int x6) → SK w5 → (∃ (r7 : Option Value) (w8 : pm_W), PS X k 230 0 [.ref 147, .int i1, .int ((x6 + 1) + (9 * i4)), pm_dead, pm_dead, pm_dead, pm_dead] [] w5 r7 w8 ∧ (∀ x9 : Int32, r7 = some (.int x9) → SK w8 → (if x9 = 0 then (r = some (.int i4) ∧ w' = w8) else (if 0 ≤ (gI w8 147 16) then (PS X k 228 12 [.ref 147, .int i1, .int i2, .int i3, .int (i4 + 1)] [] w8 r w') else (∃ (r10 : Option Value) (w11 : pm_W), PS X k 241 0 [.ref 147, .int i1, pm_dead, pm_dead] [] w8 r10 w11 ∧ (∀ x12 : Int32, r10 = some (.int x12) → SK w11 → (if x12 = 0 then (∀ w13 : pm_W, w13 = sI w11 147 16 i4 → (PS X k 228 12 [.ref 147, .int i1, .int i2, .int i3, .int (i4 + 1)] [] w13 r w')) else (PS X k 228 12 [.ref 147, .int i1, .int i2, .int i3, .int (i4 + 1)] [] w11 r w')))))))))))))) := by
  have h := sp_one (i := .iload 4) (by decide +kernel) rfl h
  have h := sp_onk (i := .iload_n 3) (by decide +kernel) rfl h
  rcases sp_icmp_ge (mi := 228) (pc := 15) (off := 66) (t := 81) (by decide +kernel) (by decide) rfl h with ⟨hc, h⟩ | ⟨hc, h⟩
  · refine ite_t hc ?_
    have h := sp_onk (i := .iload 4) (by decide +kernel) rfl h
    exact sp_iret (by decide +kernel) h
  · refine ite_f hc ?_
    have h := sp_onk (i := .iload 4) (by decide +kernel) rfl h
    have h := sp_onk (i := .aload_n 0) (by decide +kernel) rfl h
    have h := sp_getK (jj := 7) (ci := 12) (n := 0) (b := 148) (by decide +kernel) (by decide +kernel) (by decide +kernel) (by decide +kernel) (by decide) hS h
    have h := sp_iconst (n := 1) (v := 1) (by decide +kernel) (by decide +kernel) h
    have h := sp_onk (i := .iload_n 2) (by decide +kernel) rfl h
    obtain ⟨r1, w2, hc, h⟩ := sp_callS (jj := 163) (mj := 217) (n := 2) (args := [.int i2, .int 1]) (ls' := [.int 1, .int i2]) (by decide +kernel) (by decide +kernel) (by decide +kernel) rfl rfl rfl h
    refine ⟨r1, w2, hc, fun x3 er hSw2 => ?_⟩
    subst er
    have h : PS X k 228 29 [.ref 147, .int i1, .int i2, .int i3, .int i4] [.int x3, .ref 148, .int i4] w2 r w' := h
    obtain ⟨hi, h⟩ := sp_iald (by decide +kernel) h
    refine ⟨hi, ?_⟩
    rcases sp_icmp_ge (mi := 228) (pc := 30) (off := 51) (t := 81) (by decide +kernel) (by decide) rfl h with ⟨hc, h⟩ | ⟨hc, h⟩
    · refine ite_t hc ?_
      have h := sp_onk (i := .iload 4) (by decide +kernel) rfl h
      exact sp_iret (by decide +kernel) h
    · refine ite_f hc ?_
      have h := sp_onk (i := .aload_n 0) (by decide +kernel) rfl h
      have h := sp_onk (i := .iload_n 1) (by decide +kernel) rfl h
      have h := sp_iconst (n := 1) (v := 1) (by decide +kernel) (by decide +kernel) h
      have h := sp_onk (i := .iload_n 2) (by decide +kernel) rfl h
      obtain ⟨r4, w5, hc, h⟩ := sp_callS (jj := 163) (mj := 217) (n := 2) (args := [.int i2, .int 1]) (ls' := [.int 1, .int i2]) (by decide +kernel) (by decide +kernel) (by decide +kernel) rfl rfl rfl h
      refine ⟨r4, w5, hc, fun x6 er hSw5 => ?_⟩
      subst er
      have h : PS X k 228 40 [.ref 147, .int i1, .int i2, .int i3, .int i4] [.int x6, .int i1, .ref 147] w5 r w' := h
      have h := sp_iconst (n := 1) (v := 1) (by decide +kernel) (by decide +kernel) h
      have h := sp_onk (i := .iadd) (by decide +kernel) rfl h
      have h := sp_bipush (n := 9) (v := 9) (by decide +kernel) (by decide +kernel) h
      have h := sp_onk (i := .iload 4) (by decide +kernel) rfl h
      have h := sp_onk (i := .imul) (by decide +kernel) rfl h
      have h := sp_onk (i := .iadd) (by decide +kernel) rfl h
      obtain ⟨r7, w8, hc, h⟩ := sp_callV (jj := 220) (mj := 230) (n := 2) (v := .ref 147) (args := [.int ((x6 + 1) + (9 * i4)), .int i1]) (ls' := [.ref 147, .int i1, .int ((x6 + 1) + (9 * i4)), pm_dead, pm_dead, pm_dead, pm_dead]) (by decide +kernel) (by decide +kernel) rfl rfl rfl h
      refine ⟨r7, w8, hc, fun x9 er hSw8 => ?_⟩
      subst er
      have h : PS X k 228 51 [.ref 147, .int i1, .int i2, .int i3, .int i4] [.int x9] w8 r w' := h
      rcases sp_if_eq (mi := 228) (pc := 51) (off := 30) (t := 81) (by decide +kernel) (by decide) rfl h with ⟨hc, h⟩ | ⟨hc, h⟩
      · refine ite_t hc ?_
        have h := sp_onk (i := .iload 4) (by decide +kernel) rfl h
        exact sp_iret (by decide +kernel) h
      · refine ite_f hc ?_
        have h := sp_onk (i := .aload_n 0) (by decide +kernel) rfl h
        have h := sp_getI (jj := 217) (ci := 12) (n := 16) (by decide +kernel) (by decide +kernel) (by decide +kernel) hSw8 h
        rcases sp_if_ge (mi := 228) (pc := 58) (off := 17) (t := 75) (by decide +kernel) (by decide) rfl h with ⟨hc, h⟩ | ⟨hc, h⟩
        · refine ite_t hc ?_
          have h := sp_iinc (j := 4) (n := 1) (v := 1) (ls' := [.ref 147, .int i1, .int i2, .int i3, .int (i4 + 1)]) (by decide +kernel) rfl (by decide +kernel) rfl h
          have h := sp_goto (mi := 228) (pc := 78) (off := (-66)) (t := 12) (by decide +kernel) (by decide) rfl h
          exact h
        · refine ite_f hc ?_
          have h := sp_onk (i := .aload_n 0) (by decide +kernel) rfl h
          have h := sp_onk (i := .iload_n 1) (by decide +kernel) rfl h
          obtain ⟨r10, w11, hc, h⟩ := sp_callV (jj := 223) (mj := 241) (n := 1) (v := .ref 147) (args := [.int i1]) (ls' := [.ref 147, .int i1, pm_dead, pm_dead]) (by decide +kernel) (by decide +kernel) rfl rfl rfl h
          refine ⟨r10, w11, hc, fun x12 er hSw11 => ?_⟩
          subst er
          have h : PS X k 228 66 [.ref 147, .int i1, .int i2, .int i3, .int i4] [.int x12] w11 r w' := h
          rcases sp_if_ne (mi := 228) (pc := 66) (off := 9) (t := 75) (by decide +kernel) (by decide) rfl h with ⟨hc, h⟩ | ⟨hc, h⟩
          · refine ite_f hc ?_
            have h := sp_iinc (j := 4) (n := 1) (v := 1) (ls' := [.ref 147, .int i1, .int i2, .int i3, .int (i4 + 1)]) (by decide +kernel) rfl (by decide +kernel) rfl h
            have h := sp_goto (mi := 228) (pc := 78) (off := (-66)) (t := 12) (by decide +kernel) (by decide) rfl h
            exact h
          · refine ite_t (Classical.not_not.mp hc) ?_
            have h := sp_onk (i := .aload_n 0) (by decide +kernel) rfl h
            have h := sp_onk (i := .iload 4) (by decide +kernel) rfl h
            have h := sp_putI (jj := 217) (ci := 12) (n := 16) (ty := .int) (by decide +kernel) (by decide +kernel) (by decide +kernel) hSw11 h
            intro w13 ew13
            rw [← ew13] at h
            have hSw13 : SK w13 := by rw [ew13]; exact SK_sI hSw11
            have h := sp_iinc (j := 4) (n := 1) (v := 1) (ls' := [.ref 147, .int i1, .int i2, .int i3, .int (i4 + 1)]) (by decide +kernel) rfl (by decide +kernel) rfl h
            have h := sp_goto (mi := 228) (pc := 78) (off := (-66)) (t := 12) (by decide +kernel) (by decide) rfl h
            exact h
set_option maxRecDepth 20000 in
set_option maxHeartbeats 2000000 in
theorem U229_0 {X : pm_X} {k : Nat} {w w' : pm_W} {r : Option Value} (hS : SK w) (h : PS X (k + 1) 229 0 [.ref 147, pm_dead] [] w r w') : PS X k 229 2 [.ref 147, .int 0] [] w r w' := by
  have h := sp_iconst1 (n := 0) (v := 0) (by decide +kernel) (by decide +kernel) h
  have h := sp_istore_n (j := 1) (ls' := [.ref 147, .int 0]) (by decide +kernel) (Nat.le_of_ble_eq_true rfl) rfl h
  exact h
set_option maxRecDepth 20000 in
set_option maxHeartbeats 2000000 in
theorem U229_2 {X : pm_X} {k : Nat} {w w' : pm_W} {r : Option Value} {i1 : Int32} (hS : SK w) (h : PS X (k + 1) 229 2 [.ref 147, .int i1] [] w r w') : if 81 ≤ i1 then (∀ w1 : pm_W, w1 = sI w 147 14 0 → (∀ w2 : pm_W, w2 = sI w1 147 15 0 → (r = none ∧ w' = w2))) else (aI w 152 i1 ∧ (∀ w3 : pm_W, w3 = aS w 152 i1 0 → (PS X k 229 2 [.ref 147, .int (i1 + 1)] [] w3 r w'))) := by
  have h := sp_one (i := .iload_n 1) (by decide +kernel) rfl h
  have h := sp_bipush (n := 81) (v := 81) (by decide +kernel) (by decide +kernel) h
  rcases sp_icmp_ge (mi := 229) (pc := 5) (off := 16) (t := 21) (by decide +kernel) (by decide) rfl h with ⟨hc, h⟩ | ⟨hc, h⟩
  · refine ite_t hc ?_
    have h := sp_onk (i := .aload_n 0) (by decide +kernel) rfl h
    have h := sp_iconst (n := 0) (v := 0) (by decide +kernel) (by decide +kernel) h
    have h := sp_putI (jj := 175) (ci := 12) (n := 14) (ty := .int) (by decide +kernel) (by decide +kernel) (by decide +kernel) hS h
    intro w1 ew1
    rw [← ew1] at h
    have hSw1 : SK w1 := by rw [ew1]; exact SK_sI hS
    have h := sp_onk (i := .aload_n 0) (by decide +kernel) rfl h
    have h := sp_iconst (n := 0) (v := 0) (by decide +kernel) (by decide +kernel) h
    have h := sp_putI (jj := 178) (ci := 12) (n := 15) (ty := .int) (by decide +kernel) (by decide +kernel) (by decide +kernel) hSw1 h
    intro w2 ew2
    rw [← ew2] at h
    have hSw2 : SK w2 := by rw [ew2]; exact SK_sI hSw1
    exact sp_vret (by decide +kernel) h
  · refine ite_f hc ?_
    have h := sp_onk (i := .aload_n 0) (by decide +kernel) rfl h
    have h := sp_getK (jj := 23) (ci := 12) (n := 12) (b := 152) (by decide +kernel) (by decide +kernel) (by decide +kernel) (by decide +kernel) (by decide) hS h
    have h := sp_onk (i := .iload_n 1) (by decide +kernel) rfl h
    have h := sp_iconst (n := 0) (v := 0) (by decide +kernel) (by decide +kernel) h
    obtain ⟨hi, h⟩ := sp_iast (by decide +kernel) h
    refine ⟨hi, ?_⟩
    intro w3 ew3
    rw [← ew3] at h
    have hSw3 : SK w3 := by rw [ew3]; exact SK_aS hS
    have h := sp_iinc (j := 1) (n := 1) (v := 1) (ls' := [.ref 147, .int (i1 + 1)]) (by decide +kernel) rfl (by decide +kernel) rfl h
    have h := sp_goto (mi := 229) (pc := 18) (off := (-16)) (t := 2) (by decide +kernel) (by decide) rfl h
    exact h
set_option maxRecDepth 20000 in
set_option maxHeartbeats 2000000 in
theorem U230_0 {X : pm_X} {k : Nat} {w w' : pm_W} {r : Option Value} {p1 : Int32} {p2 : Int32} (hS : SK w) (h : PS X (k + 1) 230 0 [.ref 147, .int p1, .int p2, pm_dead, pm_dead, pm_dead, pm_dead] [] w r w') : aI w 148 p2 ∧ (aI w 148 (p2 + 1) ∧ (if (aG w 148 p2) = 0 then (PS X k 230 26 [.ref 147, .int p1, .int p2, .int (aG w 148 p2), .int (aG w 148 (p2 + 1)), pm_dead, pm_dead] [] w r w') else (if (aG w 148 p2) = 1 then (PS X k 230 26 [.ref 147, .int p1, .int p2, .int (aG w 148 p2), .int (aG w 148 (p2 + 1)), pm_dead, pm_dead] [] w r w') else (if (aG w 148 p2) = 2 then (∃ (r13 : Option Value) (w14 : pm_W), PS X k 233 0 [.ref 147, .int p1, .int p2, pm_dead, pm_dead, pm_dead, pm_dead, pm_dead] [] w r13 w14 ∧ (∀ x15 : Int32, r13 = some (.int x15) → SK w14 → (r = some (.int x15) ∧ w' = w14))) else (if (aG w 148 p2) = 3 then (if (gI w 147 14) ≤ (aG w 148 (p2 + 1)) then (PS X k 230 162 [.ref 147, .int p1, .int p2, .int (aG w 148 p2), .int (aG w 148 (p2 + 1)), pm_dead, pm_dead] [] w r w') else (∃ (r8 : Option Value) (w9 : pm_W), PS X k 236 0 [.ref 147, .int (aG w 148 (p2 + 1))] [] w r8 w9 ∧ (∀ x10 : Int32, r8 = some (.int x10) → SK w9 → (if x10 = 0 then (PS X k 230 162 [.ref 147, .int p1, .int p2, .int (aG w 148 p2), .int (aG w 148 (p2 + 1)), pm_dead, pm_dead] [] w9 r w') else (∃ (r11 : Option Value) (w12 : pm_W), PS X k 237 0 [.ref 147, .int (aG w 148 (p2 + 1)), pm_dead, pm_dead] [] w9 r11 w12 ∧ (r11 = none → SK w12 → (PS X k 230 203 [.ref 147, .int p1, .int p2, .int (aG w 148 p2), .int (aG w 148 (p2 + 1)), pm_dead, pm_dead] [] w12 r w'))))))) else (if (aG w 148 p2) = 4 then (∃ (r3 : Option Value) (w4 : pm_W), PS X k 221 0 [.ref 147, .int p1, .int (aG w 148 (p2 + 1))] [] w r3 w4 ∧ (∀ x5 : Int32, r3 = some (.int x5) → SK w4 → (if x5 = 0 then (r = some (.int 0) ∧ w' = w4) else (∃ (r6 : Option Value) (w7 : pm_W), PS X k 238 0 [.ref 147, .int (aG w 148 (p2 + 1)), pm_dead] [] w4 r6 w7 ∧ (r6 = none → SK w7 → (PS X k 230 203 [.ref 147, .int p1, .int p2, .int (aG w 148 p2), .int (aG w 148 (p2 + 1)), pm_dead, pm_dead] [] w7 r w')))))) else (∃ (r1 : Option Value) (w2 : pm_W), PS X k 240 0 [.ref 147, pm_dead] [] w r1 w2 ∧ (r1 = none → SK w2 → (PS X k 230 203 [.ref 147, .int p1, .int p2, .int (aG w 148 p2), .int (aG w 148 (p2 + 1)), pm_dead, pm_dead] [] w2 r w'))))))))) := by
  have h := sp_one (i := .aload_n 0) (by decide +kernel) rfl h
  have h := sp_getK (jj := 7) (ci := 12) (n := 0) (b := 148) (by decide +kernel) (by decide +kernel) (by decide +kernel) (by decide +kernel) (by decide) hS h
  have h := sp_onk (i := .iload_n 2) (by decide +kernel) rfl h
  obtain ⟨hi, h⟩ := sp_iald (by decide +kernel) h
  refine ⟨hi, ?_⟩
  have h := sp_istore_n (j := 3) (ls' := [.ref 147, .int p1, .int p2, .int (aG w 148 p2), pm_dead, pm_dead, pm_dead]) (by decide +kernel) (Nat.le_of_ble_eq_true rfl) rfl h
  have h := sp_onk (i := .aload_n 0) (by decide +kernel) rfl h
  have h := sp_getK (jj := 7) (ci := 12) (n := 0) (b := 148) (by decide +kernel) (by decide +kernel) (by decide +kernel) (by decide +kernel) (by decide) hS h
  have h := sp_onk (i := .iload_n 2) (by decide +kernel) rfl h
  have h := sp_iconst (n := 1) (v := 1) (by decide +kernel) (by decide +kernel) h
  have h := sp_onk (i := .iadd) (by decide +kernel) rfl h
  obtain ⟨hi, h⟩ := sp_iald (by decide +kernel) h
  refine ⟨hi, ?_⟩
  have h := sp_istore (j := 4) (ls' := [.ref 147, .int p1, .int p2, .int (aG w 148 p2), .int (aG w 148 (p2 + 1)), pm_dead, pm_dead]) (by decide +kernel) (Nat.le_of_ble_eq_true rfl) rfl h
  have h := sp_onk (i := .iload_n 3) (by decide +kernel) rfl h
  rcases sp_if_eq (mi := 230) (pc := 18) (off := 8) (t := 26) (by decide +kernel) (by decide) rfl h with ⟨hc, h⟩ | ⟨hc, h⟩
  · refine ite_t hc ?_
    exact h
  · refine ite_f hc ?_
    have h := sp_onk (i := .iload_n 3) (by decide +kernel) rfl h
    have h := sp_iconst (n := 1) (v := 1) (by decide +kernel) (by decide +kernel) h
    rcases sp_icmp_ne (mi := 230) (pc := 23) (off := 104) (t := 127) (by decide +kernel) (by decide) rfl h with ⟨hc, h⟩ | ⟨hc, h⟩
    · refine ite_f hc ?_
      have h := sp_onk (i := .iload_n 3) (by decide +kernel) rfl h
      have h := sp_iconst (n := 2) (v := 2) (by decide +kernel) (by decide +kernel) h
      rcases sp_icmp_ne (mi := 230) (pc := 129) (off := 10) (t := 139) (by decide +kernel) (by decide) rfl h with ⟨hc, h⟩ | ⟨hc, h⟩
      · refine ite_f hc ?_
        have h := sp_onk (i := .iload_n 3) (by decide +kernel) rfl h
        have h := sp_iconst (n := 3) (v := 3) (by decide +kernel) (by decide +kernel) h
        rcases sp_icmp_ne (mi := 230) (pc := 141) (off := 32) (t := 173) (by decide +kernel) (by decide) rfl h with ⟨hc, h⟩ | ⟨hc, h⟩
        · refine ite_f hc ?_
          have h := sp_onk (i := .iload_n 3) (by decide +kernel) rfl h
          have h := sp_iconst (n := 4) (v := 4) (by decide +kernel) (by decide +kernel) h
          rcases sp_icmp_ne (mi := 230) (pc := 175) (off := 24) (t := 199) (by decide +kernel) (by decide) rfl h with ⟨hc, h⟩ | ⟨hc, h⟩
          · refine ite_f hc ?_
            have h := sp_onk (i := .aload_n 0) (by decide +kernel) rfl h
            obtain ⟨r1, w2, hc, h⟩ := sp_callV (jj := 208) (mj := 240) (n := 0) (v := .ref 147) (args := []) (ls' := [.ref 147, pm_dead]) (by decide +kernel) (by decide +kernel) rfl rfl rfl h
            refine ⟨r1, w2, hc, fun er hSw2 => ?_⟩
            subst er
            have h : PS X k 230 203 [.ref 147, .int p1, .int p2, .int (aG w 148 p2), .int (aG w 148 (p2 + 1)), pm_dead, pm_dead] [] w2 r w' := h
            exact h
          · refine ite_t (Classical.not_not.mp hc) ?_
            have h := sp_onk (i := .aload_n 0) (by decide +kernel) rfl h
            have h := sp_onk (i := .iload_n 1) (by decide +kernel) rfl h
            have h := sp_onk (i := .iload 4) (by decide +kernel) rfl h
            obtain ⟨r3, w4, hc, h⟩ := sp_callV (jj := 166) (mj := 221) (n := 2) (v := .ref 147) (args := [.int (aG w 148 (p2 + 1)), .int p1]) (ls' := [.ref 147, .int p1, .int (aG w 148 (p2 + 1))]) (by decide +kernel) (by decide +kernel) rfl rfl rfl h
            refine ⟨r3, w4, hc, fun x5 er hSw4 => ?_⟩
            subst er
            have h : PS X k 230 185 [.ref 147, .int p1, .int p2, .int (aG w 148 p2), .int (aG w 148 (p2 + 1)), pm_dead, pm_dead] [.int x5] w4 r w' := h
            rcases sp_if_ne (mi := 230) (pc := 185) (off := 5) (t := 190) (by decide +kernel) (by decide) rfl h with ⟨hc, h⟩ | ⟨hc, h⟩
            · refine ite_f hc ?_
              have h := sp_onk (i := .aload_n 0) (by decide +kernel) rfl h
              have h := sp_onk (i := .iload 4) (by decide +kernel) rfl h
              obtain ⟨r6, w7, hc, h⟩ := sp_callV (jj := 205) (mj := 238) (n := 1) (v := .ref 147) (args := [.int (aG w 148 (p2 + 1))]) (ls' := [.ref 147, .int (aG w 148 (p2 + 1)), pm_dead]) (by decide +kernel) (by decide +kernel) rfl rfl rfl h
              refine ⟨r6, w7, hc, fun er hSw7 => ?_⟩
              subst er
              have h : PS X k 230 196 [.ref 147, .int p1, .int p2, .int (aG w 148 p2), .int (aG w 148 (p2 + 1)), pm_dead, pm_dead] [] w7 r w' := h
              have h := sp_goto (mi := 230) (pc := 196) (off := 7) (t := 203) (by decide +kernel) (by decide) rfl h
              exact h
            · refine ite_t (Classical.not_not.mp hc) ?_
              have h := sp_iconst (n := 0) (v := 0) (by decide +kernel) (by decide +kernel) h
              exact sp_iret (by decide +kernel) h
        · refine ite_t (Classical.not_not.mp hc) ?_
          have h := sp_onk (i := .iload 4) (by decide +kernel) rfl h
          have h := sp_onk (i := .aload_n 0) (by decide +kernel) rfl h
          have h := sp_getI (jj := 175) (ci := 12) (n := 14) (by decide +kernel) (by decide +kernel) (by decide +kernel) hS h
          rcases sp_icmp_ge (mi := 230) (pc := 150) (off := 12) (t := 162) (by decide +kernel) (by decide) rfl h with ⟨hc, h⟩ | ⟨hc, h⟩
          · refine ite_t hc ?_
            exact h
          · refine ite_f hc ?_
            have h := sp_onk (i := .aload_n 0) (by decide +kernel) rfl h
            have h := sp_onk (i := .iload 4) (by decide +kernel) rfl h
            obtain ⟨r8, w9, hc, h⟩ := sp_callV (jj := 190) (mj := 236) (n := 1) (v := .ref 147) (args := [.int (aG w 148 (p2 + 1))]) (ls' := [.ref 147, .int (aG w 148 (p2 + 1))]) (by decide +kernel) (by decide +kernel) rfl rfl rfl h
            refine ⟨r8, w9, hc, fun x10 er hSw9 => ?_⟩
            subst er
            have h : PS X k 230 159 [.ref 147, .int p1, .int p2, .int (aG w 148 p2), .int (aG w 148 (p2 + 1)), pm_dead, pm_dead] [.int x10] w9 r w' := h
            rcases sp_if_ne (mi := 230) (pc := 159) (off := 5) (t := 164) (by decide +kernel) (by decide) rfl h with ⟨hc, h⟩ | ⟨hc, h⟩
            · refine ite_f hc ?_
              have h := sp_onk (i := .aload_n 0) (by decide +kernel) rfl h
              have h := sp_onk (i := .iload 4) (by decide +kernel) rfl h
              obtain ⟨r11, w12, hc, h⟩ := sp_callV (jj := 196) (mj := 237) (n := 1) (v := .ref 147) (args := [.int (aG w 148 (p2 + 1))]) (ls' := [.ref 147, .int (aG w 148 (p2 + 1)), pm_dead, pm_dead]) (by decide +kernel) (by decide +kernel) rfl rfl rfl h
              refine ⟨r11, w12, hc, fun er hSw12 => ?_⟩
              subst er
              have h : PS X k 230 170 [.ref 147, .int p1, .int p2, .int (aG w 148 p2), .int (aG w 148 (p2 + 1)), pm_dead, pm_dead] [] w12 r w' := h
              have h := sp_goto (mi := 230) (pc := 170) (off := 33) (t := 203) (by decide +kernel) (by decide) rfl h
              exact h
            · refine ite_t (Classical.not_not.mp hc) ?_
              exact h
      · refine ite_t (Classical.not_not.mp hc) ?_
        have h := sp_onk (i := .aload_n 0) (by decide +kernel) rfl h
        have h := sp_onk (i := .iload_n 1) (by decide +kernel) rfl h
        have h := sp_onk (i := .iload_n 2) (by decide +kernel) rfl h
        obtain ⟨r13, w14, hc, h⟩ := sp_callV (jj := 202) (mj := 233) (n := 2) (v := .ref 147) (args := [.int p2, .int p1]) (ls' := [.ref 147, .int p1, .int p2, pm_dead, pm_dead, pm_dead, pm_dead, pm_dead]) (by decide +kernel) (by decide +kernel) rfl rfl rfl h
        refine ⟨r13, w14, hc, fun x15 er hSw14 => ?_⟩
        subst er
        have h : PS X k 230 138 [.ref 147, .int p1, .int p2, .int (aG w 148 p2), .int (aG w 148 (p2 + 1)), pm_dead, pm_dead] [.int x15] w14 r w' := h
        exact sp_iret (by decide +kernel) h
    · refine ite_t (Classical.not_not.mp hc) ?_
      exact h
set_option maxRecDepth 20000 in
set_option maxHeartbeats 2000000 in
theorem U230_26 {X : pm_X} {k : Nat} {w w' : pm_W} {r : Option Value} {i1 : Int32} {i2 : Int32} {i3 : Int32} {i4 : Int32} (hS : SK w) (h : PS X (k + 1) 230 26 [.ref 147, .int i1, .int i2, .int i3, .int i4, pm_dead, pm_dead] [] w r w') : aI w 148 (i2 + 2) ∧ (aI w 148 (i2 + 3) ∧ (∃ (r1 : Option Value) (w2 : pm_W), PS X k 221 0 [.ref 147, .int i1, .int i4] [] w r1 w2 ∧ (∀ x3 : Int32, r1 = some (.int x3) → SK w2 → (if x3 = 0 then (PS X k 230 95 [.ref 147, .int i1, .int i2, .int i3, .int i4, .int (aG w 148 (i2 + 2)), .int (aG w 148 (i2 + 3))] [] w2 r w') else (∃ (r4 : Option Value) (w5 : pm_W), PS X k 221 0 [.ref 147, .int i1, .int (aG w 148 (i2 + 2))] [] w2 r4 w5 ∧ (∀ x6 : Int32, r4 = some (.int x6) → SK w5 → (if x6 = 0 then (PS X k 230 95 [.ref 147, .int i1, .int i2, .int i3, .int i4, .int (aG w 148 (i2 + 2)), .int (aG w 148 (i2 + 3))] [] w5 r w') else (if i3 = 0 then (∃ (r12 : Option Value) (w13 : pm_W), PS X k 231 0 [.ref 147, .int i1, .int i4, .int (aG w 148 (i2 + 2)), pm_dead] [] w5 r12 w13 ∧ (∀ x14 : Int32, r12 = some (.int x14) → SK w13 → (if (aG w 148 (i2 + 3)) ≤ x14 then (aI w13 152 ((9 * i4) + (aG w 148 (i2 + 2))) ∧ (if i3 = 0 then (aI w13 152 ((9 * i4) + (aG w 148 (i2 + 2))) ∧ (∀ w16 : pm_W, w16 = aS w13 152 ((9 * i4) + (aG w 148 (i2 + 2))) ((aG w13 152 ((9 * i4) + (aG w 148 (i2 + 2)))) + (aG w 148 (i2 + 3))) → (r = some (.int 1) ∧ w' = w16))) else (aI w13 152 ((9 * i4) + (aG w 148 (i2 + 2))) ∧ (∀ w15 : pm_W, w15 = aS w13 152 ((9 * i4) + (aG w 148 (i2 + 2))) ((aG w13 152 ((9 * i4) + (aG w 148 (i2 + 2)))) + (-(aG w 148 (i2 + 3)))) → (r = some (.int 1) ∧ w' = w15))))) else (PS X k 230 95 [.ref 147, .int i1, .int i2, .int i3, .int i4, .int (aG w 148 (i2 + 2)), .int (aG w 148 (i2 + 3))] [] w13 r w')))) else (∃ (r7 : Option Value) (w8 : pm_W), PS X k 232 0 [.ref 147, .int i4, .int (aG w 148 (i2 + 2))] [] w5 r7 w8 ∧ (∀ x9 : Int32, r7 = some (.int x9) → SK w8 → (if (aG w 148 (i2 + 3)) ≤ x9 then (aI w8 152 ((9 * i4) + (aG w 148 (i2 + 2))) ∧ (if i3 = 0 then (aI w8 152 ((9 * i4) + (aG w 148 (i2 + 2))) ∧ (∀ w11 : pm_W, w11 = aS w8 152 ((9 * i4) + (aG w 148 (i2 + 2))) ((aG w8 152 ((9 * i4) + (aG w 148 (i2 + 2)))) + (aG w 148 (i2 + 3))) → (r = some (.int 1) ∧ w' = w11))) else (aI w8 152 ((9 * i4) + (aG w 148 (i2 + 2))) ∧ (∀ w10 : pm_W, w10 = aS w8 152 ((9 * i4) + (aG w 148 (i2 + 2))) ((aG w8 152 ((9 * i4) + (aG w 148 (i2 + 2)))) + (-(aG w 148 (i2 + 3)))) → (r = some (.int 1) ∧ w' = w10))))) else (PS X k 230 95 [.ref 147, .int i1, .int i2, .int i3, .int i4, .int (aG w 148 (i2 + 2)), .int (aG w 148 (i2 + 3))] [] w8 r w')))))))))))) := by
  have h := sp_one (i := .aload_n 0) (by decide +kernel) rfl h
  have h := sp_getK (jj := 7) (ci := 12) (n := 0) (b := 148) (by decide +kernel) (by decide +kernel) (by decide +kernel) (by decide +kernel) (by decide) hS h
  have h := sp_onk (i := .iload_n 2) (by decide +kernel) rfl h
  have h := sp_iconst (n := 2) (v := 2) (by decide +kernel) (by decide +kernel) h
  have h := sp_onk (i := .iadd) (by decide +kernel) rfl h
  obtain ⟨hi, h⟩ := sp_iald (by decide +kernel) h
  refine ⟨hi, ?_⟩
  have h := sp_istore (j := 5) (ls' := [.ref 147, .int i1, .int i2, .int i3, .int i4, .int (aG w 148 (i2 + 2)), pm_dead]) (by decide +kernel) (Nat.le_of_ble_eq_true rfl) rfl h
  have h := sp_onk (i := .aload_n 0) (by decide +kernel) rfl h
  have h := sp_getK (jj := 7) (ci := 12) (n := 0) (b := 148) (by decide +kernel) (by decide +kernel) (by decide +kernel) (by decide +kernel) (by decide) hS h
  have h := sp_onk (i := .iload_n 2) (by decide +kernel) rfl h
  have h := sp_iconst (n := 3) (v := 3) (by decide +kernel) (by decide +kernel) h
  have h := sp_onk (i := .iadd) (by decide +kernel) rfl h
  obtain ⟨hi, h⟩ := sp_iald (by decide +kernel) h
  refine ⟨hi, ?_⟩
  have h := sp_istore (j := 6) (ls' := [.ref 147, .int i1, .int i2, .int i3, .int i4, .int (aG w 148 (i2 + 2)), .int (aG w 148 (i2 + 3))]) (by decide +kernel) (Nat.le_of_ble_eq_true rfl) rfl h
  have h := sp_onk (i := .aload_n 0) (by decide +kernel) rfl h
  have h := sp_onk (i := .iload_n 1) (by decide +kernel) rfl h
  have h := sp_onk (i := .iload 4) (by decide +kernel) rfl h
  obtain ⟨r1, w2, hc, h⟩ := sp_callV (jj := 166) (mj := 221) (n := 2) (v := .ref 147) (args := [.int i4, .int i1]) (ls' := [.ref 147, .int i1, .int i4]) (by decide +kernel) (by decide +kernel) rfl rfl rfl h
  refine ⟨r1, w2, hc, fun x3 er hSw2 => ?_⟩
  subst er
  have h : PS X k 230 53 [.ref 147, .int i1, .int i2, .int i3, .int i4, .int (aG w 148 (i2 + 2)), .int (aG w 148 (i2 + 3))] [.int x3] w2 r w' := h
  rcases sp_if_eq (mi := 230) (pc := 53) (off := 42) (t := 95) (by decide +kernel) (by decide) rfl h with ⟨hc, h⟩ | ⟨hc, h⟩
  · refine ite_t hc ?_
    exact h
  · refine ite_f hc ?_
    have h := sp_onk (i := .aload_n 0) (by decide +kernel) rfl h
    have h := sp_onk (i := .iload_n 1) (by decide +kernel) rfl h
    have h := sp_onk (i := .iload 5) (by decide +kernel) rfl h
    obtain ⟨r4, w5, hc, h⟩ := sp_callV (jj := 166) (mj := 221) (n := 2) (v := .ref 147) (args := [.int (aG w 148 (i2 + 2)), .int i1]) (ls' := [.ref 147, .int i1, .int (aG w 148 (i2 + 2))]) (by decide +kernel) (by decide +kernel) rfl rfl rfl h
    refine ⟨r4, w5, hc, fun x6 er hSw5 => ?_⟩
    subst er
    have h : PS X k 230 63 [.ref 147, .int i1, .int i2, .int i3, .int i4, .int (aG w 148 (i2 + 2)), .int (aG w 148 (i2 + 3))] [.int x6] w5 r w' := h
    rcases sp_if_eq (mi := 230) (pc := 63) (off := 32) (t := 95) (by decide +kernel) (by decide) rfl h with ⟨hc, h⟩ | ⟨hc, h⟩
    · refine ite_t hc ?_
      exact h
    · refine ite_f hc ?_
      have h := sp_onk (i := .iload_n 3) (by decide +kernel) rfl h
      rcases sp_if_ne (mi := 230) (pc := 67) (off := 15) (t := 82) (by decide +kernel) (by decide) rfl h with ⟨hc, h⟩ | ⟨hc, h⟩
      · refine ite_f hc ?_
        have h := sp_onk (i := .aload_n 0) (by decide +kernel) rfl h
        have h := sp_onk (i := .iload 4) (by decide +kernel) rfl h
        have h := sp_onk (i := .iload 5) (by decide +kernel) rfl h
        obtain ⟨r7, w8, hc, h⟩ := sp_callV (jj := 181) (mj := 232) (n := 2) (v := .ref 147) (args := [.int (aG w 148 (i2 + 2)), .int i4]) (ls' := [.ref 147, .int i4, .int (aG w 148 (i2 + 2))]) (by decide +kernel) (by decide +kernel) rfl rfl rfl h
        refine ⟨r7, w8, hc, fun x9 er hSw8 => ?_⟩
        subst er
        have h : PS X k 230 90 [.ref 147, .int i1, .int i2, .int i3, .int i4, .int (aG w 148 (i2 + 2)), .int (aG w 148 (i2 + 3))] [.int x9] w8 r w' := h
        have h := sp_onk (i := .iload 6) (by decide +kernel) rfl h
        rcases sp_icmp_ge (mi := 230) (pc := 92) (off := 5) (t := 97) (by decide +kernel) (by decide) rfl h with ⟨hc, h⟩ | ⟨hc, h⟩
        · refine ite_t hc ?_
          have h := sp_onk (i := .aload_n 0) (by decide +kernel) rfl h
          have h := sp_getK (jj := 23) (ci := 12) (n := 12) (b := 152) (by decide +kernel) (by decide +kernel) (by decide +kernel) (by decide +kernel) (by decide) hSw8 h
          have h := sp_bipush (n := 9) (v := 9) (by decide +kernel) (by decide +kernel) h
          have h := sp_onk (i := .iload 4) (by decide +kernel) rfl h
          have h := sp_onk (i := .imul) (by decide +kernel) rfl h
          have h := sp_onk (i := .iload 5) (by decide +kernel) rfl h
          have h := sp_onk (i := .iadd) (by decide +kernel) rfl h
          have h := sp_onk (i := .dup2) (by decide +kernel) rfl h
          obtain ⟨hi, h⟩ := sp_iald (by decide +kernel) h
          refine ⟨hi, ?_⟩
          have h := sp_onk (i := .iload_n 3) (by decide +kernel) rfl h
          rcases sp_if_ne (mi := 230) (pc := 112) (off := 8) (t := 120) (by decide +kernel) (by decide) rfl h with ⟨hc, h⟩ | ⟨hc, h⟩
          · refine ite_f hc ?_
            have h := sp_onk (i := .iload 6) (by decide +kernel) rfl h
            have h := sp_onk (i := .ineg) (by decide +kernel) rfl h
            have h := sp_onk (i := .iadd) (by decide +kernel) rfl h
            obtain ⟨hi, h⟩ := sp_iast (by decide +kernel) h
            refine ⟨hi, ?_⟩
            intro w10 ew10
            rw [← ew10] at h
            have hSw10 : SK w10 := by rw [ew10]; exact SK_aS hSw8
            have h := sp_iconst (n := 1) (v := 1) (by decide +kernel) (by decide +kernel) h
            exact sp_iret (by decide +kernel) h
          · refine ite_t (Classical.not_not.mp hc) ?_
            have h := sp_onk (i := .iload 6) (by decide +kernel) rfl h
            have h := sp_goto (mi := 230) (pc := 117) (off := 6) (t := 123) (by decide +kernel) (by decide) rfl h
            have h := sp_onk (i := .iadd) (by decide +kernel) rfl h
            obtain ⟨hi, h⟩ := sp_iast (by decide +kernel) h
            refine ⟨hi, ?_⟩
            intro w11 ew11
            rw [← ew11] at h
            have hSw11 : SK w11 := by rw [ew11]; exact SK_aS hSw8
            have h := sp_iconst (n := 1) (v := 1) (by decide +kernel) (by decide +kernel) h
            exact sp_iret (by decide +kernel) h
        · refine ite_f hc ?_
          exact h
      · refine ite_t (Classical.not_not.mp hc) ?_
        have h := sp_onk (i := .aload_n 0) (by decide +kernel) rfl h
        have h := sp_onk (i := .iload_n 1) (by decide +kernel) rfl h
        have h := sp_onk (i := .iload 4) (by decide +kernel) rfl h
        have h := sp_onk (i := .iload 5) (by decide +kernel) rfl h
        obtain ⟨r12, w13, hc, h⟩ := sp_callV (jj := 199) (mj := 231) (n := 3) (v := .ref 147) (args := [.int (aG w 148 (i2 + 2)), .int i4, .int i1]) (ls' := [.ref 147, .int i1, .int i4, .int (aG w 148 (i2 + 2)), pm_dead]) (by decide +kernel) (by decide +kernel) rfl rfl rfl h
        refine ⟨r12, w13, hc, fun x14 er hSw13 => ?_⟩
        subst er
        have h : PS X k 230 79 [.ref 147, .int i1, .int i2, .int i3, .int i4, .int (aG w 148 (i2 + 2)), .int (aG w 148 (i2 + 3))] [.int x14] w13 r w' := h
        have h := sp_goto (mi := 230) (pc := 79) (off := 11) (t := 90) (by decide +kernel) (by decide) rfl h
        have h := sp_onk (i := .iload 6) (by decide +kernel) rfl h
        rcases sp_icmp_ge (mi := 230) (pc := 92) (off := 5) (t := 97) (by decide +kernel) (by decide) rfl h with ⟨hc, h⟩ | ⟨hc, h⟩
        · refine ite_t hc ?_
          have h := sp_onk (i := .aload_n 0) (by decide +kernel) rfl h
          have h := sp_getK (jj := 23) (ci := 12) (n := 12) (b := 152) (by decide +kernel) (by decide +kernel) (by decide +kernel) (by decide +kernel) (by decide) hSw13 h
          have h := sp_bipush (n := 9) (v := 9) (by decide +kernel) (by decide +kernel) h
          have h := sp_onk (i := .iload 4) (by decide +kernel) rfl h
          have h := sp_onk (i := .imul) (by decide +kernel) rfl h
          have h := sp_onk (i := .iload 5) (by decide +kernel) rfl h
          have h := sp_onk (i := .iadd) (by decide +kernel) rfl h
          have h := sp_onk (i := .dup2) (by decide +kernel) rfl h
          obtain ⟨hi, h⟩ := sp_iald (by decide +kernel) h
          refine ⟨hi, ?_⟩
          have h := sp_onk (i := .iload_n 3) (by decide +kernel) rfl h
          rcases sp_if_ne (mi := 230) (pc := 112) (off := 8) (t := 120) (by decide +kernel) (by decide) rfl h with ⟨hc, h⟩ | ⟨hc, h⟩
          · refine ite_f hc ?_
            have h := sp_onk (i := .iload 6) (by decide +kernel) rfl h
            have h := sp_onk (i := .ineg) (by decide +kernel) rfl h
            have h := sp_onk (i := .iadd) (by decide +kernel) rfl h
            obtain ⟨hi, h⟩ := sp_iast (by decide +kernel) h
            refine ⟨hi, ?_⟩
            intro w15 ew15
            rw [← ew15] at h
            have hSw15 : SK w15 := by rw [ew15]; exact SK_aS hSw13
            have h := sp_iconst (n := 1) (v := 1) (by decide +kernel) (by decide +kernel) h
            exact sp_iret (by decide +kernel) h
          · refine ite_t (Classical.not_not.mp hc) ?_
            have h := sp_onk (i := .iload 6) (by decide +kernel) rfl h
            have h := sp_goto (mi := 230) (pc := 117) (off := 6) (t := 123) (by decide +kernel) (by decide) rfl h
            have h := sp_onk (i := .iadd) (by decide +kernel) rfl h
            obtain ⟨hi, h⟩ := sp_iast (by decide +kernel) h
            refine ⟨hi, ?_⟩
            intro w16 ew16
            rw [← ew16] at h
            have hSw16 : SK w16 := by rw [ew16]; exact SK_aS hSw13
            have h := sp_iconst (n := 1) (v := 1) (by decide +kernel) (by decide +kernel) h
            exact sp_iret (by decide +kernel) h
        · refine ite_f hc ?_
          exact h
set_option maxRecDepth 20000 in
set_option maxHeartbeats 2000000 in
theorem U230_95 {X : pm_X} {k : Nat} {w w' : pm_W} {r : Option Value} {i1 : Int32} {i2 : Int32} {i3 : Int32} {i4 : Int32} {i5 : Int32} {i6 : Int32} (hS : SK w) (h : PS X (k + 1) 230 95 [.ref 147, .int i1, .int i2, .int i3, .int i4, .int i5, .int i6] [] w r w') : r = some (.int 0) ∧ w' = w := by
  have h := sp_iconst1 (n := 0) (v := 0) (by decide +kernel) (by decide +kernel) h
  exact sp_iret (by decide +kernel) h
set_option maxRecDepth 20000 in
set_option maxHeartbeats 2000000 in
theorem U230_162 {X : pm_X} {k : Nat} {w w' : pm_W} {r : Option Value} {i1 : Int32} {i2 : Int32} {i3 : Int32} {i4 : Int32} (hS : SK w) (h : PS X (k + 1) 230 162 [.ref 147, .int i1, .int i2, .int i3, .int i4, pm_dead, pm_dead] [] w r w') : r = some (.int 0) ∧ w' = w := by
  have h := sp_iconst1 (n := 0) (v := 0) (by decide +kernel) (by decide +kernel) h
  exact sp_iret (by decide +kernel) h
set_option maxRecDepth 20000 in
set_option maxHeartbeats 2000000 in
theorem U230_203 {X : pm_X} {k : Nat} {w w' : pm_W} {r : Option Value} {i1 : Int32} {i2 : Int32} {i3 : Int32} {i4 : Int32} (hS : SK w) (h : PS X (k + 1) 230 203 [.ref 147, .int i1, .int i2, .int i3, .int i4, pm_dead, pm_dead] [] w r w') : r = some (.int 1) ∧ w' = w := by
  have h := sp_iconst1 (n := 1) (v := 1) (by decide +kernel) (by decide +kernel) h
  exact sp_iret (by decide +kernel) h
set_option maxRecDepth 20000 in
set_option maxHeartbeats 2000000 in
theorem U231_0 {X : pm_X} {k : Nat} {w w' : pm_W} {r : Option Value} {p1 : Int32} {p2 : Int32} {p3 : Int32} (hS : SK w) (h : PS X (k + 1) 231 0 [.ref 147, .int p1, .int p2, .int p3, pm_dead] [] w r w') : if p2 = p3 then (r = some (.int 0) ∧ w' = w) else (aI w 148 (((p1 + 3) + (9 * p3)) + p2) ∧ (∃ (r1 : Option Value) (w2 : pm_W), PS X k 232 0 [.ref 147, .int p2, .int p3] [] w r1 w2 ∧ (∀ x3 : Int32, r1 = some (.int x3) → SK w2 → (if 0 ≤ ((aG w 148 (((p1 + 3) + (9 * p3)) + p2)) - x3) then (r = some (.int ((aG w 148 (((p1 + 3) + (9 * p3)) + p2)) - x3)) ∧ w' = w2) else (r = some (.int 0) ∧ w' = w2))))) := by
  have h := sp_one (i := .iload_n 2) (by decide +kernel) rfl h
  have h := sp_onk (i := .iload_n 3) (by decide +kernel) rfl h
  rcases sp_icmp_ne (mi := 231) (pc := 2) (off := 7) (t := 9) (by decide +kernel) (by decide) rfl h with ⟨hc, h⟩ | ⟨hc, h⟩
  · refine ite_f hc ?_
    have h := sp_onk (i := .aload_n 0) (by decide +kernel) rfl h
    have h := sp_getK (jj := 7) (ci := 12) (n := 0) (b := 148) (by decide +kernel) (by decide +kernel) (by decide +kernel) (by decide +kernel) (by decide) hS h
    have h := sp_onk (i := .iload_n 1) (by decide +kernel) rfl h
    have h := sp_iconst (n := 3) (v := 3) (by decide +kernel) (by decide +kernel) h
    have h := sp_onk (i := .iadd) (by decide +kernel) rfl h
    have h := sp_bipush (n := 9) (v := 9) (by decide +kernel) (by decide +kernel) h
    have h := sp_onk (i := .iload_n 3) (by decide +kernel) rfl h
    have h := sp_onk (i := .imul) (by decide +kernel) rfl h
    have h := sp_onk (i := .iadd) (by decide +kernel) rfl h
    have h := sp_onk (i := .iload_n 2) (by decide +kernel) rfl h
    have h := sp_onk (i := .iadd) (by decide +kernel) rfl h
    obtain ⟨hi, h⟩ := sp_iald (by decide +kernel) h
    refine ⟨hi, ?_⟩
    have h := sp_onk (i := .aload_n 0) (by decide +kernel) rfl h
    have h := sp_onk (i := .iload_n 2) (by decide +kernel) rfl h
    have h := sp_onk (i := .iload_n 3) (by decide +kernel) rfl h
    obtain ⟨r1, w2, hc, h⟩ := sp_callV (jj := 181) (mj := 232) (n := 2) (v := .ref 147) (args := [.int p3, .int p2]) (ls' := [.ref 147, .int p2, .int p3]) (by decide +kernel) (by decide +kernel) rfl rfl rfl h
    refine ⟨r1, w2, hc, fun x3 er hSw2 => ?_⟩
    subst er
    have h : PS X k 231 30 [.ref 147, .int p1, .int p2, .int p3, pm_dead] [.int x3, .int (aG w 148 (((p1 + 3) + (9 * p3)) + p2))] w2 r w' := h
    have h := sp_onk (i := .isub) (by decide +kernel) rfl h
    have h := sp_istore (j := 4) (ls' := [.ref 147, .int p1, .int p2, .int p3, .int ((aG w 148 (((p1 + 3) + (9 * p3)) + p2)) - x3)]) (by decide +kernel) (Nat.le_of_ble_eq_true rfl) rfl h
    have h := sp_onk (i := .iload 4) (by decide +kernel) rfl h
    rcases sp_if_ge (mi := 231) (pc := 35) (off := 7) (t := 42) (by decide +kernel) (by decide) rfl h with ⟨hc, h⟩ | ⟨hc, h⟩
    · refine ite_t hc ?_
      have h := sp_onk (i := .iload 4) (by decide +kernel) rfl h
      exact sp_iret (by decide +kernel) h
    · refine ite_f hc ?_
      have h := sp_iconst (n := 0) (v := 0) (by decide +kernel) (by decide +kernel) h
      have h := sp_goto (mi := 231) (pc := 39) (off := 5) (t := 44) (by decide +kernel) (by decide) rfl h
      exact sp_iret (by decide +kernel) h
  · refine ite_t (Classical.not_not.mp hc) ?_
    have h := sp_iconst (n := 0) (v := 0) (by decide +kernel) (by decide +kernel) h
    have h := sp_goto (mi := 231) (pc := 6) (off := 25) (t := 31) (by decide +kernel) (by decide) rfl h
    have h := sp_istore (j := 4) (ls' := [.ref 147, .int p1, .int p2, .int p3, .int 0]) (by decide +kernel) (Nat.le_of_ble_eq_true rfl) rfl h
    have h := sp_onk (i := .iload 4) (by decide +kernel) rfl h
    rcases sp_if_ge (mi := 231) (pc := 35) (off := 7) (t := 42) (by decide +kernel) (by decide) rfl h with ⟨hc, h⟩ | ⟨hc, h⟩
    case inr => exact absurd (by decide +kernel) hc
    have h := sp_onk (i := .iload 4) (by decide +kernel) rfl h
    exact sp_iret (by decide +kernel) h
set_option maxRecDepth 20000 in
set_option maxHeartbeats 2000000 in
theorem U232_0 {X : pm_X} {k : Nat} {w w' : pm_W} {r : Option Value} {p1 : Int32} {p2 : Int32} (hS : SK w) (h : PS X (k + 1) 232 0 [.ref 147, .int p1, .int p2] [] w r w') : aI w 152 ((9 * p1) + p2) ∧ (r = some (.int (aG w 152 ((9 * p1) + p2))) ∧ w' = w) := by
  have h := sp_one (i := .aload_n 0) (by decide +kernel) rfl h
  have h := sp_getK (jj := 23) (ci := 12) (n := 12) (b := 152) (by decide +kernel) (by decide +kernel) (by decide +kernel) (by decide +kernel) (by decide) hS h
  have h := sp_bipush (n := 9) (v := 9) (by decide +kernel) (by decide +kernel) h
  have h := sp_onk (i := .iload_n 1) (by decide +kernel) rfl h
  have h := sp_onk (i := .imul) (by decide +kernel) rfl h
  have h := sp_onk (i := .iload_n 2) (by decide +kernel) rfl h
  have h := sp_onk (i := .iadd) (by decide +kernel) rfl h
  obtain ⟨hi, h⟩ := sp_iald (by decide +kernel) h
  refine ⟨hi, ?_⟩
  exact sp_iret (by decide +kernel) h
set_option maxRecDepth 20000 in
set_option maxHeartbeats 2000000 in
theorem U233_0 {X : pm_X} {k : Nat} {w w' : pm_W} {r : Option Value} {p1 : Int32} {p2 : Int32} (hS : SK w) (h : PS X (k + 1) 233 0 [.ref 147, .int p1, .int p2, pm_dead, pm_dead, pm_dead, pm_dead, pm_dead] [] w r w') : PS X k 233 2 [.ref 147, .int p1, .int p2, .int 0, pm_dead, pm_dead, pm_dead, pm_dead] [] w r w' := by
  have h := sp_iconst1 (n := 0) (v := 0) (by decide +kernel) (by decide +kernel) h
  have h := sp_istore_n (j := 3) (ls' := [.ref 147, .int p1, .int p2, .int 0, pm_dead, pm_dead, pm_dead, pm_dead]) (by decide +kernel) (Nat.le_of_ble_eq_true rfl) rfl h
  exact h
set_option maxRecDepth 20000 in
set_option maxHeartbeats 2000000 in
theorem U233_2 {X : pm_X} {k : Nat} {w w' : pm_W} {r : Option Value} {i1 : Int32} {i2 : Int32} {i3 : Int32} (hS : SK w) (h : PS X (k + 1) 233 2 [.ref 147, .int i1, .int i2, .int i3, pm_dead, pm_dead, pm_dead, pm_dead] [] w r w') : if 6 ≤ i3 then (PS X k 233 27 [.ref 147, .int i1, .int i2, .int i3, pm_dead, pm_dead, pm_dead, pm_dead] [] w r w') else (aI w 148 ((i2 + 3) + i3) ∧ (if (aG w 148 ((i2 + 3) + i3)) < 0 then (PS X k 233 27 [.ref 147, .int i1, .int i2, .int i3, pm_dead, pm_dead, pm_dead, pm_dead] [] w r w') else (PS X k 233 2 [.ref 147, .int i1, .int i2, .int (i3 + 1), pm_dead, pm_dead, pm_dead, pm_dead] [] w r w'))) := by
  have h := sp_one (i := .iload_n 3) (by decide +kernel) rfl h
  have h := sp_bipush (n := 6) (v := 6) (by decide +kernel) (by decide +kernel) h
  rcases sp_icmp_ge (mi := 233) (pc := 5) (off := 22) (t := 27) (by decide +kernel) (by decide) rfl h with ⟨hc, h⟩ | ⟨hc, h⟩
  · refine ite_t hc ?_
    exact h
  · refine ite_f hc ?_
    have h := sp_onk (i := .aload_n 0) (by decide +kernel) rfl h
    have h := sp_getK (jj := 7) (ci := 12) (n := 0) (b := 148) (by decide +kernel) (by decide +kernel) (by decide +kernel) (by decide +kernel) (by decide) hS h
    have h := sp_onk (i := .iload_n 2) (by decide +kernel) rfl h
    have h := sp_iconst (n := 3) (v := 3) (by decide +kernel) (by decide +kernel) h
    have h := sp_onk (i := .iadd) (by decide +kernel) rfl h
    have h := sp_onk (i := .iload_n 3) (by decide +kernel) rfl h
    have h := sp_onk (i := .iadd) (by decide +kernel) rfl h
    obtain ⟨hi, h⟩ := sp_iald (by decide +kernel) h
    refine ⟨hi, ?_⟩
    rcases sp_if_lt (mi := 233) (pc := 18) (off := 9) (t := 27) (by decide +kernel) (by decide) rfl h with ⟨hc, h⟩ | ⟨hc, h⟩
    · refine ite_t hc ?_
      exact h
    · refine ite_f hc ?_
      have h := sp_iinc (j := 3) (n := 1) (v := 1) (ls' := [.ref 147, .int i1, .int i2, .int (i3 + 1), pm_dead, pm_dead, pm_dead, pm_dead]) (by decide +kernel) rfl (by decide +kernel) rfl h
      have h := sp_goto (mi := 233) (pc := 24) (off := (-22)) (t := 2) (by decide +kernel) (by decide) rfl h
      exact h
set_option maxRecDepth 20000 in
set_option maxHeartbeats 2000000 in
theorem U233_27 {X : pm_X} {k : Nat} {w w' : pm_W} {r : Option Value} {i1 : Int32} {i2 : Int32} {i3 : Int32} (hS : SK w) (h : PS X (k + 1) 233 27 [.ref 147, .int i1, .int i2, .int i3, pm_dead, pm_dead, pm_dead, pm_dead] [] w r w') : PS X k 233 33 [.ref 147, .int i1, .int i2, .int i3, .int 1, .int 0, pm_dead, pm_dead] [] w r w' := by
  have h := sp_iconst1 (n := 1) (v := 1) (by decide +kernel) (by decide +kernel) h
  have h := sp_istore (j := 4) (ls' := [.ref 147, .int i1, .int i2, .int i3, .int 1, pm_dead, pm_dead, pm_dead]) (by decide +kernel) (Nat.le_of_ble_eq_true rfl) rfl h
  have h := sp_iconst (n := 0) (v := 0) (by decide +kernel) (by decide +kernel) h
  have h := sp_istore (j := 5) (ls' := [.ref 147, .int i1, .int i2, .int i3, .int 1, .int 0, pm_dead, pm_dead]) (by decide +kernel) (Nat.le_of_ble_eq_true rfl) rfl h
  exact h
set_option maxRecDepth 20000 in
set_option maxHeartbeats 2000000 in
theorem U233_33 {X : pm_X} {k : Nat} {w w' : pm_W} {r : Option Value} {i1 : Int32} {i2 : Int32} {i3 : Int32} {i4 : Int32} {i5 : Int32} {u6 : Value} {u7 : Value} (hS : SK w) (h : PS X (k + 1) 233 33 [.ref 147, .int i1, .int i2, .int i3, .int i4, .int i5, u6, u7] [] w r w') : if i3 ≤ i5 then (PS X k 233 127 [.ref 147, .int i1, .int i2, .int i3, .int i4, .int i5, u6, u7] [] w r w') else (if i4 = 0 then (PS X k 233 127 [.ref 147, .int i1, .int i2, .int i3, .int i4, .int i5, u6, u7] [] w r w') else (aI w 148 ((i2 + 3) + i5) ∧ (aI w 148 ((i2 + 3) + ((i5 + 1) - (i5 + 1) / i3 * i3)) ∧ (∃ (r1 : Option Value) (w2 : pm_W), PS X k 221 0 [.ref 147, .int i1, .int (aG w 148 ((i2 + 3) + i5))] [] w r1 w2 ∧ (∀ x3 : Int32, r1 = some (.int x3) → SK w2 → (if x3 = 0 then (PS X k 233 118 [.ref 147, .int i1, .int i2, .int i3, .int i4, .int i5, .int (aG w 148 ((i2 + 3) + i5)), .int (aG w 148 ((i2 + 3) + ((i5 + 1) - (i5 + 1) / i3 * i3)))] [] w2 r w') else (∃ (r4 : Option Value) (w5 : pm_W), PS X k 221 0 [.ref 147, .int i1, .int (aG w 148 ((i2 + 3) + ((i5 + 1) - (i5 + 1) / i3 * i3)))] [] w2 r4 w5 ∧ (∀ x6 : Int32, r4 = some (.int x6) → SK w5 → (if x6 = 0 then (PS X k 233 118 [.ref 147, .int i1, .int i2, .int i3, .int i4, .int i5, .int (aG w 148 ((i2 + 3) + i5)), .int (aG w 148 ((i2 + 3) + ((i5 + 1) - (i5 + 1) / i3 * i3)))] [] w5 r w') else (∃ (r7 : Option Value) (w8 : pm_W), PS X k 231 0 [.ref 147, .int i1, .int (aG w 148 ((i2 + 3) + i5)), .int (aG w 148 ((i2 + 3) + ((i5 + 1) - (i5 + 1) / i3 * i3))), pm_dead] [] w5 r7 w8 ∧ (∀ x9 : Int32, r7 = some (.int x9) → SK w8 → (aI w8 148 (i2 + 1) ∧ (if x9 < (aG w8 148 (i2 + 1)) then (PS X k 233 118 [.ref 147, .int i1, .int i2, .int i3, .int i4, .int i5, .int (aG w 148 ((i2 + 3) + i5)), .int (aG w 148 ((i2 + 3) + ((i5 + 1) - (i5 + 1) / i3 * i3)))] [] w8 r w') else (PS X k 233 33 [.ref 147, .int i1, .int i2, .int i3, .int 1, .int (i5 + 1), .int (aG w 148 ((i2 + 3) + i5)), .int (aG w 148 ((i2 + 3) + ((i5 + 1) - (i5 + 1) / i3 * i3)))] [] w8 r w')))))))))))))) := by
  have h := sp_one (i := .iload 5) (by decide +kernel) rfl h
  have h := sp_onk (i := .iload_n 3) (by decide +kernel) rfl h
  rcases sp_icmp_ge (mi := 233) (pc := 36) (off := 91) (t := 127) (by decide +kernel) (by decide) rfl h with ⟨hc, h⟩ | ⟨hc, h⟩
  · refine ite_t hc ?_
    exact h
  · refine ite_f hc ?_
    have h := sp_onk (i := .iload 4) (by decide +kernel) rfl h
    rcases sp_if_eq (mi := 233) (pc := 41) (off := 86) (t := 127) (by decide +kernel) (by decide) rfl h with ⟨hc, h⟩ | ⟨hc, h⟩
    · refine ite_t hc ?_
      exact h
    · refine ite_f hc ?_
      have h := sp_onk (i := .aload_n 0) (by decide +kernel) rfl h
      have h := sp_getK (jj := 7) (ci := 12) (n := 0) (b := 148) (by decide +kernel) (by decide +kernel) (by decide +kernel) (by decide +kernel) (by decide) hS h
      have h := sp_onk (i := .iload_n 2) (by decide +kernel) rfl h
      have h := sp_iconst (n := 3) (v := 3) (by decide +kernel) (by decide +kernel) h
      have h := sp_onk (i := .iadd) (by decide +kernel) rfl h
      have h := sp_onk (i := .iload 5) (by decide +kernel) rfl h
      have h := sp_onk (i := .iadd) (by decide +kernel) rfl h
      obtain ⟨hi, h⟩ := sp_iald (by decide +kernel) h
      refine ⟨hi, ?_⟩
      have h := sp_istore (j := 6) (ls' := [.ref 147, .int i1, .int i2, .int i3, .int i4, .int i5, .int (aG w 148 ((i2 + 3) + i5)), u7]) (by decide +kernel) (Nat.le_of_ble_eq_true rfl) rfl h
      have h := sp_onk (i := .aload_n 0) (by decide +kernel) rfl h
      have h := sp_getK (jj := 7) (ci := 12) (n := 0) (b := 148) (by decide +kernel) (by decide +kernel) (by decide +kernel) (by decide +kernel) (by decide) hS h
      have h := sp_onk (i := .iload_n 2) (by decide +kernel) rfl h
      have h := sp_iconst (n := 3) (v := 3) (by decide +kernel) (by decide +kernel) h
      have h := sp_onk (i := .iadd) (by decide +kernel) rfl h
      have h := sp_onk (i := .iload 5) (by decide +kernel) rfl h
      have h := sp_iconst (n := 1) (v := 1) (by decide +kernel) (by decide +kernel) h
      have h := sp_onk (i := .iadd) (by decide +kernel) rfl h
      have h := sp_onk (i := .iload_n 3) (by decide +kernel) rfl h
      have h := sp_irem (by decide +kernel) h
      have h := sp_onk (i := .iadd) (by decide +kernel) rfl h
      obtain ⟨hi, h⟩ := sp_iald (by decide +kernel) h
      refine ⟨hi, ?_⟩
      have h := sp_istore (j := 7) (ls' := [.ref 147, .int i1, .int i2, .int i3, .int i4, .int i5, .int (aG w 148 ((i2 + 3) + i5)), .int (aG w 148 ((i2 + 3) + ((i5 + 1) - (i5 + 1) / i3 * i3)))]) (by decide +kernel) (Nat.le_of_ble_eq_true rfl) rfl h
      have h := sp_onk (i := .aload_n 0) (by decide +kernel) rfl h
      have h := sp_onk (i := .iload_n 1) (by decide +kernel) rfl h
      have h := sp_onk (i := .iload 6) (by decide +kernel) rfl h
      obtain ⟨r1, w2, hc, h⟩ := sp_callV (jj := 166) (mj := 221) (n := 2) (v := .ref 147) (args := [.int (aG w 148 ((i2 + 3) + i5)), .int i1]) (ls' := [.ref 147, .int i1, .int (aG w 148 ((i2 + 3) + i5))]) (by decide +kernel) (by decide +kernel) rfl rfl rfl h
      refine ⟨r1, w2, hc, fun x3 er hSw2 => ?_⟩
      subst er
      have h : PS X k 233 81 [.ref 147, .int i1, .int i2, .int i3, .int i4, .int i5, .int (aG w 148 ((i2 + 3) + i5)), .int (aG w 148 ((i2 + 3) + ((i5 + 1) - (i5 + 1) / i3 * i3)))] [.int x3] w2 r w' := h
      rcases sp_if_eq (mi := 233) (pc := 81) (off := 37) (t := 118) (by decide +kernel) (by decide) rfl h with ⟨hc, h⟩ | ⟨hc, h⟩
      · refine ite_t hc ?_
        exact h
      · refine ite_f hc ?_
        have h := sp_onk (i := .aload_n 0) (by decide +kernel) rfl h
        have h := sp_onk (i := .iload_n 1) (by decide +kernel) rfl h
        have h := sp_onk (i := .iload 7) (by decide +kernel) rfl h
        obtain ⟨r4, w5, hc, h⟩ := sp_callV (jj := 166) (mj := 221) (n := 2) (v := .ref 147) (args := [.int (aG w 148 ((i2 + 3) + ((i5 + 1) - (i5 + 1) / i3 * i3))), .int i1]) (ls' := [.ref 147, .int i1, .int (aG w 148 ((i2 + 3) + ((i5 + 1) - (i5 + 1) / i3 * i3)))]) (by decide +kernel) (by decide +kernel) rfl rfl rfl h
        refine ⟨r4, w5, hc, fun x6 er hSw5 => ?_⟩
        subst er
        have h : PS X k 233 91 [.ref 147, .int i1, .int i2, .int i3, .int i4, .int i5, .int (aG w 148 ((i2 + 3) + i5)), .int (aG w 148 ((i2 + 3) + ((i5 + 1) - (i5 + 1) / i3 * i3)))] [.int x6] w5 r w' := h
        rcases sp_if_eq (mi := 233) (pc := 91) (off := 27) (t := 118) (by decide +kernel) (by decide) rfl h with ⟨hc, h⟩ | ⟨hc, h⟩
        · refine ite_t hc ?_
          exact h
        · refine ite_f hc ?_
          have h := sp_onk (i := .aload_n 0) (by decide +kernel) rfl h
          have h := sp_onk (i := .iload_n 1) (by decide +kernel) rfl h
          have h := sp_onk (i := .iload 6) (by decide +kernel) rfl h
          have h := sp_onk (i := .iload 7) (by decide +kernel) rfl h
          obtain ⟨r7, w8, hc, h⟩ := sp_callV (jj := 199) (mj := 231) (n := 3) (v := .ref 147) (args := [.int (aG w 148 ((i2 + 3) + ((i5 + 1) - (i5 + 1) / i3 * i3))), .int (aG w 148 ((i2 + 3) + i5)), .int i1]) (ls' := [.ref 147, .int i1, .int (aG w 148 ((i2 + 3) + i5)), .int (aG w 148 ((i2 + 3) + ((i5 + 1) - (i5 + 1) / i3 * i3))), pm_dead]) (by decide +kernel) (by decide +kernel) rfl rfl rfl h
          refine ⟨r7, w8, hc, fun x9 er hSw8 => ?_⟩
          subst er
          have h : PS X k 233 103 [.ref 147, .int i1, .int i2, .int i3, .int i4, .int i5, .int (aG w 148 ((i2 + 3) + i5)), .int (aG w 148 ((i2 + 3) + ((i5 + 1) - (i5 + 1) / i3 * i3)))] [.int x9] w8 r w' := h
          have h := sp_onk (i := .aload_n 0) (by decide +kernel) rfl h
          have h := sp_getK (jj := 7) (ci := 12) (n := 0) (b := 148) (by decide +kernel) (by decide +kernel) (by decide +kernel) (by decide +kernel) (by decide) hSw8 h
          have h := sp_onk (i := .iload_n 2) (by decide +kernel) rfl h
          have h := sp_iconst (n := 1) (v := 1) (by decide +kernel) (by decide +kernel) h
          have h := sp_onk (i := .iadd) (by decide +kernel) rfl h
          obtain ⟨hi, h⟩ := sp_iald (by decide +kernel) h
          refine ⟨hi, ?_⟩
          rcases sp_icmp_lt (mi := 233) (pc := 111) (off := 7) (t := 118) (by decide +kernel) (by decide) rfl h with ⟨hc, h⟩ | ⟨hc, h⟩
          · refine ite_t hc ?_
            exact h
          · refine ite_f hc ?_
            have h := sp_iconst (n := 1) (v := 1) (by decide +kernel) (by decide +kernel) h
            have h := sp_goto (mi := 233) (pc := 115) (off := 4) (t := 119) (by decide +kernel) (by decide) rfl h
            have h := sp_istore (j := 4) (ls' := [.ref 147, .int i1, .int i2, .int i3, .int 1, .int i5, .int (aG w 148 ((i2 + 3) + i5)), .int (aG w 148 ((i2 + 3) + ((i5 + 1) - (i5 + 1) / i3 * i3)))]) (by decide +kernel) (Nat.le_of_ble_eq_true rfl) rfl h
            have h := sp_iinc (j := 5) (n := 1) (v := 1) (ls' := [.ref 147, .int i1, .int i2, .int i3, .int 1, .int (i5 + 1), .int (aG w 148 ((i2 + 3) + i5)), .int (aG w 148 ((i2 + 3) + ((i5 + 1) - (i5 + 1) / i3 * i3)))]) (by decide +kernel) rfl (by decide +kernel) rfl h
            have h := sp_goto (mi := 233) (pc := 124) (off := (-91)) (t := 33) (by decide +kernel) (by decide) rfl h
            exact h
set_option maxRecDepth 20000 in
set_option maxHeartbeats 2000000 in
theorem U233_118 {X : pm_X} {k : Nat} {w w' : pm_W} {r : Option Value} {i1 : Int32} {i2 : Int32} {i3 : Int32} {i4 : Int32} {i5 : Int32} {i6 : Int32} {i7 : Int32} (hS : SK w) (h : PS X (k + 1) 233 118 [.ref 147, .int i1, .int i2, .int i3, .int i4, .int i5, .int i6, .int i7] [] w r w') : PS X k 233 33 [.ref 147, .int i1, .int i2, .int i3, .int 0, .int (i5 + 1), .int i6, .int i7] [] w r w' := by
  have h := sp_iconst1 (n := 0) (v := 0) (by decide +kernel) (by decide +kernel) h
  have h := sp_istore (j := 4) (ls' := [.ref 147, .int i1, .int i2, .int i3, .int 0, .int i5, .int i6, .int i7]) (by decide +kernel) (Nat.le_of_ble_eq_true rfl) rfl h
  have h := sp_iinc (j := 5) (n := 1) (v := 1) (ls' := [.ref 147, .int i1, .int i2, .int i3, .int 0, .int (i5 + 1), .int i6, .int i7]) (by decide +kernel) rfl (by decide +kernel) rfl h
  have h := sp_goto (mi := 233) (pc := 124) (off := (-91)) (t := 33) (by decide +kernel) (by decide) rfl h
  exact h
set_option maxRecDepth 20000 in
set_option maxHeartbeats 2000000 in
theorem U233_127 {X : pm_X} {k : Nat} {w w' : pm_W} {r : Option Value} {i1 : Int32} {i2 : Int32} {i3 : Int32} {i4 : Int32} {i5 : Int32} {u6 : Value} {u7 : Value} (hS : SK w) (h : PS X (k + 1) 233 127 [.ref 147, .int i1, .int i2, .int i3, .int i4, .int i5, u6, u7] [] w r w') : if i4 = 0 then (r = some (.int 0) ∧ w' = w) else (aI w 153 (10 * (gI w 147 14)) ∧ (∀ w1 : pm_W, w1 = aS w 153 (10 * (gI w 147 14)) i3 → (aI w1 148 (i2 + 1) ∧ (aI w1 153 ((10 * (gI w 147 14)) + 1) ∧ (∀ w2 : pm_W, w2 = aS w1 153 ((10 * (gI w 147 14)) + 1) (aG w1 148 (i2 + 1)) → (aI w2 148 (i2 + 2) ∧ (aI w2 153 ((10 * (gI w 147 14)) + 2) ∧ (∀ w3 : pm_W, w3 = aS w2 153 ((10 * (gI w 147 14)) + 2) (aG w2 148 (i2 + 2)) → (aI w3 153 ((10 * (gI w 147 14)) + 3) ∧ (∀ w4 : pm_W, w4 = aS w3 153 ((10 * (gI w 147 14)) + 3) 1 → (PS X k 233 198 [.ref 147, .int i1, .int i2, .int i3, .int i4, .int (10 * (gI w 147 14)), .int 0, u7] [] w4 r w'))))))))))) := by
  have h := sp_one (i := .iload 4) (by decide +kernel) rfl h
  rcases sp_if_ne (mi := 233) (pc := 129) (off := 5) (t := 134) (by decide +kernel) (by decide) rfl h with ⟨hc, h⟩ | ⟨hc, h⟩
  · refine ite_f hc ?_
    have h := sp_bipush (n := 10) (v := 10) (by decide +kernel) (by decide +kernel) h
    have h := sp_onk (i := .aload_n 0) (by decide +kernel) rfl h
    have h := sp_getI (jj := 175) (ci := 12) (n := 14) (by decide +kernel) (by decide +kernel) (by decide +kernel) hS h
    have h := sp_onk (i := .imul) (by decide +kernel) rfl h
    have h := sp_istore (j := 5) (ls' := [.ref 147, .int i1, .int i2, .int i3, .int i4, .int (10 * (gI w 147 14)), u6, u7]) (by decide +kernel) (Nat.le_of_ble_eq_true rfl) rfl h
    have h := sp_onk (i := .aload_n 0) (by decide +kernel) rfl h
    have h := sp_getK (jj := 26) (ci := 12) (n := 13) (b := 153) (by decide +kernel) (by decide +kernel) (by decide +kernel) (by decide +kernel) (by decide) hS h
    have h := sp_onk (i := .iload 5) (by decide +kernel) rfl h
    have h := sp_onk (i := .iload_n 3) (by decide +kernel) rfl h
    obtain ⟨hi, h⟩ := sp_iast (by decide +kernel) h
    refine ⟨hi, ?_⟩
    intro w1 ew1
    rw [← ew1] at h
    have hSw1 : SK w1 := by rw [ew1]; exact SK_aS hS
    have h := sp_onk (i := .aload_n 0) (by decide +kernel) rfl h
    have h := sp_getK (jj := 26) (ci := 12) (n := 13) (b := 153) (by decide +kernel) (by decide +kernel) (by decide +kernel) (by decide +kernel) (by decide) hSw1 h
    have h := sp_onk (i := .iload 5) (by decide +kernel) rfl h
    have h := sp_iconst (n := 1) (v := 1) (by decide +kernel) (by decide +kernel) h
    have h := sp_onk (i := .iadd) (by decide +kernel) rfl h
    have h := sp_onk (i := .aload_n 0) (by decide +kernel) rfl h
    have h := sp_getK (jj := 7) (ci := 12) (n := 0) (b := 148) (by decide +kernel) (by decide +kernel) (by decide +kernel) (by decide +kernel) (by decide) hSw1 h
    have h := sp_onk (i := .iload_n 2) (by decide +kernel) rfl h
    have h := sp_iconst (n := 1) (v := 1) (by decide +kernel) (by decide +kernel) h
    have h := sp_onk (i := .iadd) (by decide +kernel) rfl h
    obtain ⟨hi, h⟩ := sp_iald (by decide +kernel) h
    refine ⟨hi, ?_⟩
    obtain ⟨hi, h⟩ := sp_iast (by decide +kernel) h
    refine ⟨hi, ?_⟩
    intro w2 ew2
    rw [← ew2] at h
    have hSw2 : SK w2 := by rw [ew2]; exact SK_aS hSw1
    have h := sp_onk (i := .aload_n 0) (by decide +kernel) rfl h
    have h := sp_getK (jj := 26) (ci := 12) (n := 13) (b := 153) (by decide +kernel) (by decide +kernel) (by decide +kernel) (by decide +kernel) (by decide) hSw2 h
    have h := sp_onk (i := .iload 5) (by decide +kernel) rfl h
    have h := sp_iconst (n := 2) (v := 2) (by decide +kernel) (by decide +kernel) h
    have h := sp_onk (i := .iadd) (by decide +kernel) rfl h
    have h := sp_onk (i := .aload_n 0) (by decide +kernel) rfl h
    have h := sp_getK (jj := 7) (ci := 12) (n := 0) (b := 148) (by decide +kernel) (by decide +kernel) (by decide +kernel) (by decide +kernel) (by decide) hSw2 h
    have h := sp_onk (i := .iload_n 2) (by decide +kernel) rfl h
    have h := sp_iconst (n := 2) (v := 2) (by decide +kernel) (by decide +kernel) h
    have h := sp_onk (i := .iadd) (by decide +kernel) rfl h
    obtain ⟨hi, h⟩ := sp_iald (by decide +kernel) h
    refine ⟨hi, ?_⟩
    obtain ⟨hi, h⟩ := sp_iast (by decide +kernel) h
    refine ⟨hi, ?_⟩
    intro w3 ew3
    rw [← ew3] at h
    have hSw3 : SK w3 := by rw [ew3]; exact SK_aS hSw2
    have h := sp_onk (i := .aload_n 0) (by decide +kernel) rfl h
    have h := sp_getK (jj := 26) (ci := 12) (n := 13) (b := 153) (by decide +kernel) (by decide +kernel) (by decide +kernel) (by decide +kernel) (by decide) hSw3 h
    have h := sp_onk (i := .iload 5) (by decide +kernel) rfl h
    have h := sp_iconst (n := 3) (v := 3) (by decide +kernel) (by decide +kernel) h
    have h := sp_onk (i := .iadd) (by decide +kernel) rfl h
    have h := sp_iconst (n := 1) (v := 1) (by decide +kernel) (by decide +kernel) h
    obtain ⟨hi, h⟩ := sp_iast (by decide +kernel) h
    refine ⟨hi, ?_⟩
    intro w4 ew4
    rw [← ew4] at h
    have hSw4 : SK w4 := by rw [ew4]; exact SK_aS hSw3
    have h := sp_iconst (n := 0) (v := 0) (by decide +kernel) (by decide +kernel) h
    have h := sp_istore (j := 6) (ls' := [.ref 147, .int i1, .int i2, .int i3, .int i4, .int (10 * (gI w 147 14)), .int 0, u7]) (by decide +kernel) (Nat.le_of_ble_eq_true rfl) rfl h
    exact h
  · refine ite_t (Classical.not_not.mp hc) ?_
    have h := sp_iconst (n := 0) (v := 0) (by decide +kernel) (by decide +kernel) h
    exact sp_iret (by decide +kernel) h
set_option maxRecDepth 20000 in
set_option maxHeartbeats 2000000 in
theorem U233_198 {X : pm_X} {k : Nat} {w w' : pm_W} {r : Option Value} {i1 : Int32} {i2 : Int32} {i3 : Int32} {i4 : Int32} {i5 : Int32} {i6 : Int32} {u7 : Value} (hS : SK w) (h : PS X (k + 1) 233 198 [.ref 147, .int i1, .int i2, .int i3, .int i4, .int i5, .int i6, u7] [] w r w') : if i3 ≤ i6 then (∀ w1 : pm_W, w1 = sI w 147 14 ((gI w 147 14) + 1) → (PS X k 233 246 [.ref 147, .int i1, .int i2, .int i3, .int i4, .int i5, .int 0, u7] [] w1 r w')) else (aI w 148 ((i2 + 3) + i6) ∧ (aI w 153 ((i5 + 4) + i6) ∧ (∀ w2 : pm_W, w2 = aS w 153 ((i5 + 4) + i6) (aG w 148 ((i2 + 3) + i6)) → (PS X k 233 198 [.ref 147, .int i1, .int i2, .int i3, .int i4, .int i5, .int (i6 + 1), u7] [] w2 r w')))) := by
  have h := sp_one (i := .iload 6) (by decide +kernel) rfl h
  have h := sp_onk (i := .iload_n 3) (by decide +kernel) rfl h
  rcases sp_icmp_ge (mi := 233) (pc := 201) (off := 32) (t := 233) (by decide +kernel) (by decide) rfl h with ⟨hc, h⟩ | ⟨hc, h⟩
  · refine ite_t hc ?_
    have h := sp_onk (i := .aload_n 0) (by decide +kernel) rfl h
    have h := sp_onk (i := .dup) (by decide +kernel) rfl h
    have h := sp_getI (jj := 175) (ci := 12) (n := 14) (by decide +kernel) (by decide +kernel) (by decide +kernel) hS h
    have h := sp_iconst (n := 1) (v := 1) (by decide +kernel) (by decide +kernel) h
    have h := sp_onk (i := .iadd) (by decide +kernel) rfl h
    have h := sp_putI (jj := 175) (ci := 12) (n := 14) (ty := .int) (by decide +kernel) (by decide +kernel) (by decide +kernel) hS h
    intro w1 ew1
    rw [← ew1] at h
    have hSw1 : SK w1 := by rw [ew1]; exact SK_sI hS
    have h := sp_iconst (n := 0) (v := 0) (by decide +kernel) (by decide +kernel) h
    have h := sp_istore (j := 6) (ls' := [.ref 147, .int i1, .int i2, .int i3, .int i4, .int i5, .int 0, u7]) (by decide +kernel) (Nat.le_of_ble_eq_true rfl) rfl h
    exact h
  · refine ite_f hc ?_
    have h := sp_onk (i := .aload_n 0) (by decide +kernel) rfl h
    have h := sp_getK (jj := 26) (ci := 12) (n := 13) (b := 153) (by decide +kernel) (by decide +kernel) (by decide +kernel) (by decide +kernel) (by decide) hS h
    have h := sp_onk (i := .iload 5) (by decide +kernel) rfl h
    have h := sp_iconst (n := 4) (v := 4) (by decide +kernel) (by decide +kernel) h
    have h := sp_onk (i := .iadd) (by decide +kernel) rfl h
    have h := sp_onk (i := .iload 6) (by decide +kernel) rfl h
    have h := sp_onk (i := .iadd) (by decide +kernel) rfl h
    have h := sp_onk (i := .aload_n 0) (by decide +kernel) rfl h
    have h := sp_getK (jj := 7) (ci := 12) (n := 0) (b := 148) (by decide +kernel) (by decide +kernel) (by decide +kernel) (by decide +kernel) (by decide) hS h
    have h := sp_onk (i := .iload_n 2) (by decide +kernel) rfl h
    have h := sp_iconst (n := 3) (v := 3) (by decide +kernel) (by decide +kernel) h
    have h := sp_onk (i := .iadd) (by decide +kernel) rfl h
    have h := sp_onk (i := .iload 6) (by decide +kernel) rfl h
    have h := sp_onk (i := .iadd) (by decide +kernel) rfl h
    obtain ⟨hi, h⟩ := sp_iald (by decide +kernel) h
    refine ⟨hi, ?_⟩
    obtain ⟨hi, h⟩ := sp_iast (by decide +kernel) h
    refine ⟨hi, ?_⟩
    intro w2 ew2
    rw [← ew2] at h
    have hSw2 : SK w2 := by rw [ew2]; exact SK_aS hS
    have h := sp_iinc (j := 6) (n := 1) (v := 1) (ls' := [.ref 147, .int i1, .int i2, .int i3, .int i4, .int i5, .int (i6 + 1), u7]) (by decide +kernel) rfl (by decide +kernel) rfl h
    have h := sp_goto (mi := 233) (pc := 230) (off := (-32)) (t := 198) (by decide +kernel) (by decide) rfl h
    exact h
set_option maxRecDepth 20000 in
set_option maxHeartbeats 2000000 in
theorem U233_246 {X : pm_X} {k : Nat} {w w' : pm_W} {r : Option Value} {i1 : Int32} {i2 : Int32} {i3 : Int32} {i4 : Int32} {i5 : Int32} {i6 : Int32} {u7 : Value} (hS : SK w) (h : PS X (k + 1) 233 246 [.ref 147, .int i1, .int i2, .int i3, .int i4, .int i5, .int i6, u7] [] w r w') : if i3 ≤ i6 then (r = some (.int 1) ∧ w' = w) else (∃ (r1 : Option Value) (w2 : pm_W), PS X k 234 0 [.ref 147, .int ((gI w 147 14) - 1), .int i6] [] w r1 w2 ∧ (∀ x3 : Int32, r1 = some (.int x3) → SK w2 → (∃ (r4 : Option Value) (w5 : pm_W), PS X k 235 0 [.ref 147, .int ((gI w2 147 14) - 1), .int i6] [] w2 r4 w5 ∧ (∀ x6 : Int32, r4 = some (.int x6) → SK w5 → (aI w5 152 ((9 * x3) + x6) ∧ (aI w5 148 (i2 + 1) ∧ (aI w5 152 ((9 * x3) + x6) ∧ (∀ w7 : pm_W, w7 = aS w5 152 ((9 * x3) + x6) ((aG w5 152 ((9 * x3) + x6)) + (aG w5 148 (i2 + 1))) → (PS X k 233 246 [.ref 147, .int i1, .int i2, .int i3, .int i4, .int i5, .int (i6 + 1), u7] [] w7 r w'))))))))) := by
  have h := sp_one (i := .iload 6) (by decide +kernel) rfl h
  have h := sp_onk (i := .iload_n 3) (by decide +kernel) rfl h
  rcases sp_icmp_ge (mi := 233) (pc := 249) (off := 53) (t := 302) (by decide +kernel) (by decide) rfl h with ⟨hc, h⟩ | ⟨hc, h⟩
  · refine ite_t hc ?_
    have h := sp_iconst (n := 1) (v := 1) (by decide +kernel) (by decide +kernel) h
    exact sp_iret (by decide +kernel) h
  · refine ite_f hc ?_
    have h := sp_onk (i := .aload_n 0) (by decide +kernel) rfl h
    have h := sp_getK (jj := 23) (ci := 12) (n := 12) (b := 152) (by decide +kernel) (by decide +kernel) (by decide +kernel) (by decide +kernel) (by decide) hS h
    have h := sp_bipush (n := 9) (v := 9) (by decide +kernel) (by decide +kernel) h
    have h := sp_onk (i := .aload_n 0) (by decide +kernel) rfl h
    have h := sp_onk (i := .aload_n 0) (by decide +kernel) rfl h
    have h := sp_getI (jj := 175) (ci := 12) (n := 14) (by decide +kernel) (by decide +kernel) (by decide +kernel) hS h
    have h := sp_iconst (n := 1) (v := 1) (by decide +kernel) (by decide +kernel) h
    have h := sp_onk (i := .isub) (by decide +kernel) rfl h
    have h := sp_onk (i := .iload 6) (by decide +kernel) rfl h
    obtain ⟨r1, w2, hc, h⟩ := sp_callV (jj := 184) (mj := 234) (n := 2) (v := .ref 147) (args := [.int i6, .int ((gI w 147 14) - 1)]) (ls' := [.ref 147, .int ((gI w 147 14) - 1), .int i6]) (by decide +kernel) (by decide +kernel) rfl rfl rfl h
    refine ⟨r1, w2, hc, fun x3 er hSw2 => ?_⟩
    subst er
    have h : PS X k 233 270 [.ref 147, .int i1, .int i2, .int i3, .int i4, .int i5, .int i6, u7] [.int x3, .int 9, .ref 152] w2 r w' := h
    have h := sp_onk (i := .imul) (by decide +kernel) rfl h
    have h := sp_onk (i := .aload_n 0) (by decide +kernel) rfl h
    have h := sp_onk (i := .aload_n 0) (by decide +kernel) rfl h
    have h := sp_getI (jj := 175) (ci := 12) (n := 14) (by decide +kernel) (by decide +kernel) (by decide +kernel) hSw2 h
    have h := sp_iconst (n := 1) (v := 1) (by decide +kernel) (by decide +kernel) h
    have h := sp_onk (i := .isub) (by decide +kernel) rfl h
    have h := sp_onk (i := .iload 6) (by decide +kernel) rfl h
    obtain ⟨r4, w5, hc, h⟩ := sp_callV (jj := 187) (mj := 235) (n := 2) (v := .ref 147) (args := [.int i6, .int ((gI w2 147 14) - 1)]) (ls' := [.ref 147, .int ((gI w2 147 14) - 1), .int i6]) (by decide +kernel) (by decide +kernel) rfl rfl rfl h
    refine ⟨r4, w5, hc, fun x6 er hSw5 => ?_⟩
    subst er
    have h : PS X k 233 283 [.ref 147, .int i1, .int i2, .int i3, .int i4, .int i5, .int i6, u7] [.int x6, .int (9 * x3), .ref 152] w5 r w' := h
    have h := sp_onk (i := .iadd) (by decide +kernel) rfl h
    have h := sp_onk (i := .dup2) (by decide +kernel) rfl h
    obtain ⟨hi, h⟩ := sp_iald (by decide +kernel) h
    refine ⟨hi, ?_⟩
    have h := sp_onk (i := .aload_n 0) (by decide +kernel) rfl h
    have h := sp_getK (jj := 7) (ci := 12) (n := 0) (b := 148) (by decide +kernel) (by decide +kernel) (by decide +kernel) (by decide +kernel) (by decide) hSw5 h
    have h := sp_onk (i := .iload_n 2) (by decide +kernel) rfl h
    have h := sp_iconst (n := 1) (v := 1) (by decide +kernel) (by decide +kernel) h
    have h := sp_onk (i := .iadd) (by decide +kernel) rfl h
    obtain ⟨hi, h⟩ := sp_iald (by decide +kernel) h
    refine ⟨hi, ?_⟩
    have h := sp_onk (i := .iadd) (by decide +kernel) rfl h
    obtain ⟨hi, h⟩ := sp_iast (by decide +kernel) h
    refine ⟨hi, ?_⟩
    intro w7 ew7
    rw [← ew7] at h
    have hSw7 : SK w7 := by rw [ew7]; exact SK_aS hSw5
    have h := sp_iinc (j := 6) (n := 1) (v := 1) (ls' := [.ref 147, .int i1, .int i2, .int i3, .int i4, .int i5, .int (i6 + 1), u7]) (by decide +kernel) rfl (by decide +kernel) rfl h
    have h := sp_goto (mi := 233) (pc := 299) (off := (-53)) (t := 246) (by decide +kernel) (by decide) rfl h
    exact h
set_option maxRecDepth 20000 in
set_option maxHeartbeats 2000000 in
theorem U234_0 {X : pm_X} {k : Nat} {w w' : pm_W} {r : Option Value} {p1 : Int32} {p2 : Int32} (hS : SK w) (h : PS X (k + 1) 234 0 [.ref 147, .int p1, .int p2] [] w r w') : aI w 153 (((10 * p1) + 4) + p2) ∧ (r = some (.int (aG w 153 (((10 * p1) + 4) + p2))) ∧ w' = w) := by
  have h := sp_one (i := .aload_n 0) (by decide +kernel) rfl h
  have h := sp_getK (jj := 26) (ci := 12) (n := 13) (b := 153) (by decide +kernel) (by decide +kernel) (by decide +kernel) (by decide +kernel) (by decide) hS h
  have h := sp_bipush (n := 10) (v := 10) (by decide +kernel) (by decide +kernel) h
  have h := sp_onk (i := .iload_n 1) (by decide +kernel) rfl h
  have h := sp_onk (i := .imul) (by decide +kernel) rfl h
  have h := sp_iconst (n := 4) (v := 4) (by decide +kernel) (by decide +kernel) h
  have h := sp_onk (i := .iadd) (by decide +kernel) rfl h
  have h := sp_onk (i := .iload_n 2) (by decide +kernel) rfl h
  have h := sp_onk (i := .iadd) (by decide +kernel) rfl h
  obtain ⟨hi, h⟩ := sp_iald (by decide +kernel) h
  refine ⟨hi, ?_⟩
  exact sp_iret (by decide +kernel) h
set_option maxRecDepth 20000 in
set_option maxHeartbeats 2000000 in
theorem U235_0 {X : pm_X} {k : Nat} {w w' : pm_W} {r : Option Value} {p1 : Int32} {p2 : Int32} (hS : SK w) (h : PS X (k + 1) 235 0 [.ref 147, .int p1, .int p2] [] w r w') : aI w 153 (10 * p1) ∧ (if (p2 + 1) = (aG w 153 (10 * p1)) then (∃ (r4 : Option Value) (w5 : pm_W), PS X k 234 0 [.ref 147, .int p1, .int 0] [] w r4 w5 ∧ (∀ x6 : Int32, r4 = some (.int x6) → SK w5 → (r = some (.int x6) ∧ w' = w5))) else (∃ (r1 : Option Value) (w2 : pm_W), PS X k 234 0 [.ref 147, .int p1, .int (p2 + 1)] [] w r1 w2 ∧ (∀ x3 : Int32, r1 = some (.int x3) → SK w2 → (r = some (.int x3) ∧ w' = w2)))) := by
  have h := sp_one (i := .aload_n 0) (by decide +kernel) rfl h
  have h := sp_onk (i := .iload_n 1) (by decide +kernel) rfl h
  have h := sp_onk (i := .iload_n 2) (by decide +kernel) rfl h
  have h := sp_iconst (n := 1) (v := 1) (by decide +kernel) (by decide +kernel) h
  have h := sp_onk (i := .iadd) (by decide +kernel) rfl h
  have h := sp_onk (i := .aload_n 0) (by decide +kernel) rfl h
  have h := sp_getK (jj := 26) (ci := 12) (n := 13) (b := 153) (by decide +kernel) (by decide +kernel) (by decide +kernel) (by decide +kernel) (by decide) hS h
  have h := sp_bipush (n := 10) (v := 10) (by decide +kernel) (by decide +kernel) h
  have h := sp_onk (i := .iload_n 1) (by decide +kernel) rfl h
  have h := sp_onk (i := .imul) (by decide +kernel) rfl h
  obtain ⟨hi, h⟩ := sp_iald (by decide +kernel) h
  refine ⟨hi, ?_⟩
  rcases sp_icmp_ne (mi := 235) (pc := 14) (off := 7) (t := 21) (by decide +kernel) (by decide) rfl h with ⟨hc, h⟩ | ⟨hc, h⟩
  · refine ite_f hc ?_
    have h := sp_onk (i := .iload_n 2) (by decide +kernel) rfl h
    have h := sp_iconst (n := 1) (v := 1) (by decide +kernel) (by decide +kernel) h
    have h := sp_onk (i := .iadd) (by decide +kernel) rfl h
    obtain ⟨r1, w2, hc, h⟩ := sp_callV (jj := 184) (mj := 234) (n := 2) (v := .ref 147) (args := [.int (p2 + 1), .int p1]) (ls' := [.ref 147, .int p1, .int (p2 + 1)]) (by decide +kernel) (by decide +kernel) rfl rfl rfl h
    refine ⟨r1, w2, hc, fun x3 er hSw2 => ?_⟩
    subst er
    have h : PS X k 235 27 [.ref 147, .int p1, .int p2] [.int x3] w2 r w' := h
    exact sp_iret (by decide +kernel) h
  · refine ite_t (Classical.not_not.mp hc) ?_
    have h := sp_iconst (n := 0) (v := 0) (by decide +kernel) (by decide +kernel) h
    have h := sp_goto (mi := 235) (pc := 18) (off := 6) (t := 24) (by decide +kernel) (by decide) rfl h
    obtain ⟨r4, w5, hc, h⟩ := sp_callV (jj := 184) (mj := 234) (n := 2) (v := .ref 147) (args := [.int 0, .int p1]) (ls' := [.ref 147, .int p1, .int 0]) (by decide +kernel) (by decide +kernel) rfl rfl rfl h
    refine ⟨r4, w5, hc, fun x6 er hSw5 => ?_⟩
    subst er
    have h : PS X k 235 27 [.ref 147, .int p1, .int p2] [.int x6] w5 r w' := h
    exact sp_iret (by decide +kernel) h
set_option maxRecDepth 20000 in
set_option maxHeartbeats 2000000 in
theorem U236_0 {X : pm_X} {k : Nat} {w w' : pm_W} {r : Option Value} {p1 : Int32} (hS : SK w) (h : PS X (k + 1) 236 0 [.ref 147, .int p1] [] w r w') : aI w 153 ((10 * p1) + 3) ∧ (if (aG w 153 ((10 * p1) + 3)) = 1 then (r = some (.int 1) ∧ w' = w) else (r = some (.int 0) ∧ w' = w)) := by
  have h := sp_one (i := .aload_n 0) (by decide +kernel) rfl h
  have h := sp_getK (jj := 26) (ci := 12) (n := 13) (b := 153) (by decide +kernel) (by decide +kernel) (by decide +kernel) (by decide +kernel) (by decide) hS h
  have h := sp_bipush (n := 10) (v := 10) (by decide +kernel) (by decide +kernel) h
  have h := sp_onk (i := .iload_n 1) (by decide +kernel) rfl h
  have h := sp_onk (i := .imul) (by decide +kernel) rfl h
  have h := sp_iconst (n := 3) (v := 3) (by decide +kernel) (by decide +kernel) h
  have h := sp_onk (i := .iadd) (by decide +kernel) rfl h
  obtain ⟨hi, h⟩ := sp_iald (by decide +kernel) h
  refine ⟨hi, ?_⟩
  have h := sp_iconst (n := 1) (v := 1) (by decide +kernel) (by decide +kernel) h
  rcases sp_icmp_ne (mi := 236) (pc := 12) (off := 7) (t := 19) (by decide +kernel) (by decide) rfl h with ⟨hc, h⟩ | ⟨hc, h⟩
  · refine ite_f hc ?_
    have h := sp_iconst (n := 0) (v := 0) (by decide +kernel) (by decide +kernel) h
    exact sp_iret (by decide +kernel) h
  · refine ite_t (Classical.not_not.mp hc) ?_
    have h := sp_iconst (n := 1) (v := 1) (by decide +kernel) (by decide +kernel) h
    have h := sp_goto (mi := 236) (pc := 16) (off := 4) (t := 20) (by decide +kernel) (by decide) rfl h
    exact sp_iret (by decide +kernel) h
set_option maxRecDepth 20000 in
set_option maxHeartbeats 2000000 in
theorem U237_0 {X : pm_X} {k : Nat} {w w' : pm_W} {r : Option Value} {p1 : Int32} (hS : SK w) (h : PS X (k + 1) 237 0 [.ref 147, .int p1, pm_dead, pm_dead] [] w r w') : PS X k 237 2 [.ref 147, .int p1, .int 0, pm_dead] [] w r w' := by
  have h := sp_iconst1 (n := 0) (v := 0) (by decide +kernel) (by decide +kernel) h
  have h := sp_istore_n (j := 2) (ls' := [.ref 147, .int p1, .int 0, pm_dead]) (by decide +kernel) (Nat.le_of_ble_eq_true rfl) rfl h
  exact h
set_option maxRecDepth 20000 in
set_option maxHeartbeats 2000000 in
theorem U237_2 {X : pm_X} {k : Nat} {w w' : pm_W} {r : Option Value} {i1 : Int32} {i2 : Int32} {u3 : Value} (hS : SK w) (h : PS X (k + 1) 237 2 [.ref 147, .int i1, .int i2, u3] [] w r w') : aI w 153 (10 * i1) ∧ (if (aG w 153 (10 * i1)) ≤ i2 then (aI w 153 ((10 * i1) + 3) ∧ (∀ w1 : pm_W, w1 = aS w 153 ((10 * i1) + 3) 0 → (r = none ∧ w' = w1))) else (∃ (r2 : Option Value) (w3 : pm_W), PS X k 234 0 [.ref 147, .int i1, .int i2] [] w r2 w3 ∧ (∀ x4 : Int32, r2 = some (.int x4) → SK w3 → (∃ (r5 : Option Value) (w6 : pm_W), PS X k 235 0 [.ref 147, .int i1, .int i2] [] w3 r5 w6 ∧ (∀ x7 : Int32, r5 = some (.int x7) → SK w6 → (aI w6 152 ((9 * x4) + x7) ∧ (aI w6 153 ((10 * i1) + 1) ∧ (if (aG w6 153 ((10 * i1) + 1)) ≤ (aG w6 152 ((9 * x4) + x7)) then (aI w6 152 ((9 * x4) + x7) ∧ (aI w6 153 ((10 * i1) + 1) ∧ (aI w6 152 ((9 * x4) + x7) ∧ (∀ w8 : pm_W, w8 = aS w6 152 ((9 * x4) + x7) ((aG w6 152 ((9 * x4) + x7)) - (aG w6 153 ((10 * i1) + 1))) → (PS X k 237 2 [.ref 147, .int i1, .int (i2 + 1), .int ((9 * x4) + x7)] [] w8 r w'))))) else (aI w6 152 ((9 * x4) + x7) ∧ (∀ w9 : pm_W, w9 = aS w6 152 ((9 * x4) + x7) 0 → (PS X k 237 2 [.ref 147, .int i1, .int (i2 + 1), .int ((9 * x4) + x7)] [] w9 r w'))))))))))) := by
  have h := sp_one (i := .iload_n 2) (by decide +kernel) rfl h
  have h := sp_onk (i := .aload_n 0) (by decide +kernel) rfl h
  have h := sp_getK (jj := 26) (ci := 12) (n := 13) (b := 153) (by decide +kernel) (by decide +kernel) (by decide +kernel) (by decide +kernel) (by decide) hS h
  have h := sp_bipush (n := 10) (v := 10) (by decide +kernel) (by decide +kernel) h
  have h := sp_onk (i := .iload_n 1) (by decide +kernel) rfl h
  have h := sp_onk (i := .imul) (by decide +kernel) rfl h
  obtain ⟨hi, h⟩ := sp_iald (by decide +kernel) h
  refine ⟨hi, ?_⟩
  rcases sp_icmp_ge (mi := 237) (pc := 12) (off := 74) (t := 86) (by decide +kernel) (by decide) rfl h with ⟨hc, h⟩ | ⟨hc, h⟩
  · refine ite_t hc ?_
    have h := sp_onk (i := .aload_n 0) (by decide +kernel) rfl h
    have h := sp_getK (jj := 26) (ci := 12) (n := 13) (b := 153) (by decide +kernel) (by decide +kernel) (by decide +kernel) (by decide +kernel) (by decide) hS h
    have h := sp_bipush (n := 10) (v := 10) (by decide +kernel) (by decide +kernel) h
    have h := sp_onk (i := .iload_n 1) (by decide +kernel) rfl h
    have h := sp_onk (i := .imul) (by decide +kernel) rfl h
    have h := sp_iconst (n := 3) (v := 3) (by decide +kernel) (by decide +kernel) h
    have h := sp_onk (i := .iadd) (by decide +kernel) rfl h
    have h := sp_iconst (n := 0) (v := 0) (by decide +kernel) (by decide +kernel) h
    obtain ⟨hi, h⟩ := sp_iast (by decide +kernel) h
    refine ⟨hi, ?_⟩
    intro w1 ew1
    rw [← ew1] at h
    have hSw1 : SK w1 := by rw [ew1]; exact SK_aS hS
    exact sp_vret (by decide +kernel) h
  · refine ite_f hc ?_
    have h := sp_bipush (n := 9) (v := 9) (by decide +kernel) (by decide +kernel) h
    have h := sp_onk (i := .aload_n 0) (by decide +kernel) rfl h
    have h := sp_onk (i := .iload_n 1) (by decide +kernel) rfl h
    have h := sp_onk (i := .iload_n 2) (by decide +kernel) rfl h
    obtain ⟨r2, w3, hc, h⟩ := sp_callV (jj := 184) (mj := 234) (n := 2) (v := .ref 147) (args := [.int i2, .int i1]) (ls' := [.ref 147, .int i1, .int i2]) (by decide +kernel) (by decide +kernel) rfl rfl rfl h
    refine ⟨r2, w3, hc, fun x4 er hSw3 => ?_⟩
    subst er
    have h : PS X k 237 23 [.ref 147, .int i1, .int i2, u3] [.int x4, .int 9] w3 r w' := h
    have h := sp_onk (i := .imul) (by decide +kernel) rfl h
    have h := sp_onk (i := .aload_n 0) (by decide +kernel) rfl h
    have h := sp_onk (i := .iload_n 1) (by decide +kernel) rfl h
    have h := sp_onk (i := .iload_n 2) (by decide +kernel) rfl h
    obtain ⟨r5, w6, hc, h⟩ := sp_callV (jj := 187) (mj := 235) (n := 2) (v := .ref 147) (args := [.int i2, .int i1]) (ls' := [.ref 147, .int i1, .int i2]) (by decide +kernel) (by decide +kernel) rfl rfl rfl h
    refine ⟨r5, w6, hc, fun x7 er hSw6 => ?_⟩
    subst er
    have h : PS X k 237 30 [.ref 147, .int i1, .int i2, u3] [.int x7, .int (9 * x4)] w6 r w' := h
    have h := sp_onk (i := .iadd) (by decide +kernel) rfl h
    have h := sp_istore_n (j := 3) (ls' := [.ref 147, .int i1, .int i2, .int ((9 * x4) + x7)]) (by decide +kernel) (Nat.le_of_ble_eq_true rfl) rfl h
    have h := sp_onk (i := .aload_n 0) (by decide +kernel) rfl h
    have h := sp_getK (jj := 23) (ci := 12) (n := 12) (b := 152) (by decide +kernel) (by decide +kernel) (by decide +kernel) (by decide +kernel) (by decide) hSw6 h
    have h := sp_onk (i := .iload_n 3) (by decide +kernel) rfl h
    have h := sp_onk (i := .aload_n 0) (by decide +kernel) rfl h
    have h := sp_getK (jj := 23) (ci := 12) (n := 12) (b := 152) (by decide +kernel) (by decide +kernel) (by decide +kernel) (by decide +kernel) (by decide) hSw6 h
    have h := sp_onk (i := .iload_n 3) (by decide +kernel) rfl h
    obtain ⟨hi, h⟩ := sp_iald (by decide +kernel) h
    refine ⟨hi, ?_⟩
    have h := sp_onk (i := .aload_n 0) (by decide +kernel) rfl h
    have h := sp_getK (jj := 26) (ci := 12) (n := 13) (b := 153) (by decide +kernel) (by decide +kernel) (by decide +kernel) (by decide +kernel) (by decide) hSw6 h
    have h := sp_bipush (n := 10) (v := 10) (by decide +kernel) (by decide +kernel) h
    have h := sp_onk (i := .iload_n 1) (by decide +kernel) rfl h
    have h := sp_onk (i := .imul) (by decide +kernel) rfl h
    have h := sp_iconst (n := 1) (v := 1) (by decide +kernel) (by decide +kernel) h
    have h := sp_onk (i := .iadd) (by decide +kernel) rfl h
    obtain ⟨hi, h⟩ := sp_iald (by decide +kernel) h
    refine ⟨hi, ?_⟩
    rcases sp_icmp_ge (mi := 237) (pc := 54) (off := 7) (t := 61) (by decide +kernel) (by decide) rfl h with ⟨hc, h⟩ | ⟨hc, h⟩
    · refine ite_t hc ?_
      have h := sp_onk (i := .aload_n 0) (by decide +kernel) rfl h
      have h := sp_getK (jj := 23) (ci := 12) (n := 12) (b := 152) (by decide +kernel) (by decide +kernel) (by decide +kernel) (by decide +kernel) (by decide) hSw6 h
      have h := sp_onk (i := .iload_n 3) (by decide +kernel) rfl h
      obtain ⟨hi, h⟩ := sp_iald (by decide +kernel) h
      refine ⟨hi, ?_⟩
      have h := sp_onk (i := .aload_n 0) (by decide +kernel) rfl h
      have h := sp_getK (jj := 26) (ci := 12) (n := 13) (b := 153) (by decide +kernel) (by decide +kernel) (by decide +kernel) (by decide +kernel) (by decide) hSw6 h
      have h := sp_bipush (n := 10) (v := 10) (by decide +kernel) (by decide +kernel) h
      have h := sp_onk (i := .iload_n 1) (by decide +kernel) rfl h
      have h := sp_onk (i := .imul) (by decide +kernel) rfl h
      have h := sp_iconst (n := 1) (v := 1) (by decide +kernel) (by decide +kernel) h
      have h := sp_onk (i := .iadd) (by decide +kernel) rfl h
      obtain ⟨hi, h⟩ := sp_iald (by decide +kernel) h
      refine ⟨hi, ?_⟩
      have h := sp_onk (i := .isub) (by decide +kernel) rfl h
      obtain ⟨hi, h⟩ := sp_iast (by decide +kernel) h
      refine ⟨hi, ?_⟩
      intro w8 ew8
      rw [← ew8] at h
      have hSw8 : SK w8 := by rw [ew8]; exact SK_aS hSw6
      have h := sp_iinc (j := 2) (n := 1) (v := 1) (ls' := [.ref 147, .int i1, .int (i2 + 1), .int ((9 * x4) + x7)]) (by decide +kernel) rfl (by decide +kernel) rfl h
      have h := sp_goto (mi := 237) (pc := 83) (off := (-81)) (t := 2) (by decide +kernel) (by decide) rfl h
      exact h
    · refine ite_f hc ?_
      have h := sp_iconst (n := 0) (v := 0) (by decide +kernel) (by decide +kernel) h
      have h := sp_goto (mi := 237) (pc := 58) (off := 21) (t := 79) (by decide +kernel) (by decide) rfl h
      obtain ⟨hi, h⟩ := sp_iast (by decide +kernel) h
      refine ⟨hi, ?_⟩
      intro w9 ew9
      rw [← ew9] at h
      have hSw9 : SK w9 := by rw [ew9]; exact SK_aS hSw6
      have h := sp_iinc (j := 2) (n := 1) (v := 1) (ls' := [.ref 147, .int i1, .int (i2 + 1), .int ((9 * x4) + x7)]) (by decide +kernel) rfl (by decide +kernel) rfl h
      have h := sp_goto (mi := 237) (pc := 83) (off := (-81)) (t := 2) (by decide +kernel) (by decide) rfl h
      exact h
set_option maxRecDepth 20000 in
set_option maxHeartbeats 2000000 in
theorem U238_0 {X : pm_X} {k : Nat} {w w' : pm_W} {r : Option Value} {p1 : Int32} (hS : SK w) (h : PS X (k + 1) 238 0 [.ref 147, .int p1, pm_dead] [] w r w') : PS X k 238 2 [.ref 147, .int p1, .int 0] [] w r w' := by
  have h := sp_iconst1 (n := 0) (v := 0) (by decide +kernel) (by decide +kernel) h
  have h := sp_istore_n (j := 2) (ls' := [.ref 147, .int p1, .int 0]) (by decide +kernel) (Nat.le_of_ble_eq_true rfl) rfl h
  exact h
set_option maxRecDepth 20000 in
set_option maxHeartbeats 2000000 in
theorem U238_2 {X : pm_X} {k : Nat} {w w' : pm_W} {r : Option Value} {i1 : Int32} {i2 : Int32} (hS : SK w) (h : PS X (k + 1) 238 2 [.ref 147, .int i1, .int i2] [] w r w') : if (gI w 147 14) ≤ i2 then (PS X k 238 40 [.ref 147, .int i1, .int 0] [] w r w') else (∃ (r1 : Option Value) (w2 : pm_W), PS X k 236 0 [.ref 147, .int i2] [] w r1 w2 ∧ (∀ x3 : Int32, r1 = some (.int x3) → SK w2 → (if x3 = 0 then (PS X k 238 2 [.ref 147, .int i1, .int (i2 + 1)] [] w2 r w') else (∃ (r4 : Option Value) (w5 : pm_W), PS X k 239 0 [.ref 147, .int i2, .int i1, pm_dead, pm_dead] [] w2 r4 w5 ∧ (∀ x6 : Int32, r4 = some (.int x6) → SK w5 → (if x6 = 0 then (PS X k 238 2 [.ref 147, .int i1, .int (i2 + 1)] [] w5 r w') else (∃ (r7 : Option Value) (w8 : pm_W), PS X k 237 0 [.ref 147, .int i2, pm_dead, pm_dead] [] w5 r7 w8 ∧ (r7 = none → SK w8 → (PS X k 238 2 [.ref 147, .int i1, .int (i2 + 1)] [] w8 r w'))))))))) := by
  have h := sp_one (i := .iload_n 2) (by decide +kernel) rfl h
  have h := sp_onk (i := .aload_n 0) (by decide +kernel) rfl h
  have h := sp_getI (jj := 175) (ci := 12) (n := 14) (by decide +kernel) (by decide +kernel) (by decide +kernel) hS h
  rcases sp_icmp_ge (mi := 238) (pc := 7) (off := 31) (t := 38) (by decide +kernel) (by decide) rfl h with ⟨hc, h⟩ | ⟨hc, h⟩
  · refine ite_t hc ?_
    have h := sp_iconst (n := 0) (v := 0) (by decide +kernel) (by decide +kernel) h
    have h := sp_istore_n (j := 2) (ls' := [.ref 147, .int i1, .int 0]) (by decide +kernel) (Nat.le_of_ble_eq_true rfl) rfl h
    exact h
  · refine ite_f hc ?_
    have h := sp_onk (i := .aload_n 0) (by decide +kernel) rfl h
    have h := sp_onk (i := .iload_n 2) (by decide +kernel) rfl h
    obtain ⟨r1, w2, hc, h⟩ := sp_callV (jj := 190) (mj := 236) (n := 1) (v := .ref 147) (args := [.int i2]) (ls' := [.ref 147, .int i2]) (by decide +kernel) (by decide +kernel) rfl rfl rfl h
    refine ⟨r1, w2, hc, fun x3 er hSw2 => ?_⟩
    subst er
    have h : PS X k 238 15 [.ref 147, .int i1, .int i2] [.int x3] w2 r w' := h
    rcases sp_if_eq (mi := 238) (pc := 15) (off := 17) (t := 32) (by decide +kernel) (by decide) rfl h with ⟨hc, h⟩ | ⟨hc, h⟩
    · refine ite_t hc ?_
      have h := sp_iinc (j := 2) (n := 1) (v := 1) (ls' := [.ref 147, .int i1, .int (i2 + 1)]) (by decide +kernel) rfl (by decide +kernel) rfl h
      have h := sp_goto (mi := 238) (pc := 35) (off := (-33)) (t := 2) (by decide +kernel) (by decide) rfl h
      exact h
    · refine ite_f hc ?_
      have h := sp_onk (i := .aload_n 0) (by decide +kernel) rfl h
      have h := sp_onk (i := .iload_n 2) (by decide +kernel) rfl h
      have h := sp_onk (i := .iload_n 1) (by decide +kernel) rfl h
      obtain ⟨r4, w5, hc, h⟩ := sp_callV (jj := 193) (mj := 239) (n := 2) (v := .ref 147) (args := [.int i1, .int i2]) (ls' := [.ref 147, .int i2, .int i1, pm_dead, pm_dead]) (by decide +kernel) (by decide +kernel) rfl rfl rfl h
      refine ⟨r4, w5, hc, fun x6 er hSw5 => ?_⟩
      subst er
      have h : PS X k 238 24 [.ref 147, .int i1, .int i2] [.int x6] w5 r w' := h
      rcases sp_if_eq (mi := 238) (pc := 24) (off := 8) (t := 32) (by decide +kernel) (by decide) rfl h with ⟨hc, h⟩ | ⟨hc, h⟩
      · refine ite_t hc ?_
        have h := sp_iinc (j := 2) (n := 1) (v := 1) (ls' := [.ref 147, .int i1, .int (i2 + 1)]) (by decide +kernel) rfl (by decide +kernel) rfl h
        have h := sp_goto (mi := 238) (pc := 35) (off := (-33)) (t := 2) (by decide +kernel) (by decide) rfl h
        exact h
      · refine ite_f hc ?_
        have h := sp_onk (i := .aload_n 0) (by decide +kernel) rfl h
        have h := sp_onk (i := .iload_n 2) (by decide +kernel) rfl h
        obtain ⟨r7, w8, hc, h⟩ := sp_callV (jj := 196) (mj := 237) (n := 1) (v := .ref 147) (args := [.int i2]) (ls' := [.ref 147, .int i2, pm_dead, pm_dead]) (by decide +kernel) (by decide +kernel) rfl rfl rfl h
        refine ⟨r7, w8, hc, fun er hSw8 => ?_⟩
        subst er
        have h : PS X k 238 32 [.ref 147, .int i1, .int i2] [] w8 r w' := h
        have h := sp_iinc (j := 2) (n := 1) (v := 1) (ls' := [.ref 147, .int i1, .int (i2 + 1)]) (by decide +kernel) rfl (by decide +kernel) rfl h
        have h := sp_goto (mi := 238) (pc := 35) (off := (-33)) (t := 2) (by decide +kernel) (by decide) rfl h
        exact h
set_option maxRecDepth 20000 in
set_option maxHeartbeats 2000000 in
theorem U238_40 {X : pm_X} {k : Nat} {w w' : pm_W} {r : Option Value} {i1 : Int32} {i2 : Int32} (hS : SK w) (h : PS X (k + 1) 238 40 [.ref 147, .int i1, .int i2] [] w r w') : if 9 ≤ i2 then (r = none ∧ w' = w) else (aI w 152 ((9 * i1) + i2) ∧ (∀ w1 : pm_W, w1 = aS w 152 ((9 * i1) + i2) 0 → (aI w1 152 ((9 * i2) + i1) ∧ (∀ w2 : pm_W, w2 = aS w1 152 ((9 * i2) + i1) 0 → (PS X k 238 40 [.ref 147, .int i1, .int (i2 + 1)] [] w2 r w'))))) := by
  have h := sp_one (i := .iload_n 2) (by decide +kernel) rfl h
  have h := sp_bipush (n := 9) (v := 9) (by decide +kernel) (by decide +kernel) h
  rcases sp_icmp_ge (mi := 238) (pc := 43) (off := 33) (t := 76) (by decide +kernel) (by decide) rfl h with ⟨hc, h⟩ | ⟨hc, h⟩
  · refine ite_t hc ?_
    exact sp_vret (by decide +kernel) h
  · refine ite_f hc ?_
    have h := sp_onk (i := .aload_n 0) (by decide +kernel) rfl h
    have h := sp_getK (jj := 23) (ci := 12) (n := 12) (b := 152) (by decide +kernel) (by decide +kernel) (by decide +kernel) (by decide +kernel) (by decide) hS h
    have h := sp_bipush (n := 9) (v := 9) (by decide +kernel) (by decide +kernel) h
    have h := sp_onk (i := .iload_n 1) (by decide +kernel) rfl h
    have h := sp_onk (i := .imul) (by decide +kernel) rfl h
    have h := sp_onk (i := .iload_n 2) (by decide +kernel) rfl h
    have h := sp_onk (i := .iadd) (by decide +kernel) rfl h
    have h := sp_iconst (n := 0) (v := 0) (by decide +kernel) (by decide +kernel) h
    obtain ⟨hi, h⟩ := sp_iast (by decide +kernel) h
    refine ⟨hi, ?_⟩
    intro w1 ew1
    rw [← ew1] at h
    have hSw1 : SK w1 := by rw [ew1]; exact SK_aS hS
    have h := sp_onk (i := .aload_n 0) (by decide +kernel) rfl h
    have h := sp_getK (jj := 23) (ci := 12) (n := 12) (b := 152) (by decide +kernel) (by decide +kernel) (by decide +kernel) (by decide +kernel) (by decide) hSw1 h
    have h := sp_bipush (n := 9) (v := 9) (by decide +kernel) (by decide +kernel) h
    have h := sp_onk (i := .iload_n 2) (by decide +kernel) rfl h
    have h := sp_onk (i := .imul) (by decide +kernel) rfl h
    have h := sp_onk (i := .iload_n 1) (by decide +kernel) rfl h
    have h := sp_onk (i := .iadd) (by decide +kernel) rfl h
    have h := sp_iconst (n := 0) (v := 0) (by decide +kernel) (by decide +kernel) h
    obtain ⟨hi, h⟩ := sp_iast (by decide +kernel) h
    refine ⟨hi, ?_⟩
    intro w2 ew2
    rw [← ew2] at h
    have hSw2 : SK w2 := by rw [ew2]; exact SK_aS hSw1
    have h := sp_iinc (j := 2) (n := 1) (v := 1) (ls' := [.ref 147, .int i1, .int (i2 + 1)]) (by decide +kernel) rfl (by decide +kernel) rfl h
    have h := sp_goto (mi := 238) (pc := 73) (off := (-33)) (t := 40) (by decide +kernel) (by decide) rfl h
    exact h
set_option maxRecDepth 20000 in
set_option maxHeartbeats 2000000 in
theorem U239_0 {X : pm_X} {k : Nat} {w w' : pm_W} {r : Option Value} {p1 : Int32} {p2 : Int32} (hS : SK w) (h : PS X (k + 1) 239 0 [.ref 147, .int p1, .int p2, pm_dead, pm_dead] [] w r w') : PS X k 239 5 [.ref 147, .int p1, .int p2, .int 0, .int 0] [] w r w' := by
  have h := sp_iconst1 (n := 0) (v := 0) (by decide +kernel) (by decide +kernel) h
  have h := sp_istore_n (j := 3) (ls' := [.ref 147, .int p1, .int p2, .int 0, pm_dead]) (by decide +kernel) (Nat.le_of_ble_eq_true rfl) rfl h
  have h := sp_iconst (n := 0) (v := 0) (by decide +kernel) (by decide +kernel) h
  have h := sp_istore (j := 4) (ls' := [.ref 147, .int p1, .int p2, .int 0, .int 0]) (by decide +kernel) (Nat.le_of_ble_eq_true rfl) rfl h
  exact h
set_option maxRecDepth 20000 in
set_option maxHeartbeats 2000000 in
theorem U239_5 {X : pm_X} {k : Nat} {w w' : pm_W} {r : Option Value} {i1 : Int32} {i2 : Int32} {i3 : Int32} {i4 : Int32} (hS : SK w) (h : PS X (k + 1) 239 5 [.ref 147, .int i1, .int i2, .int i3, .int i4] [] w r w') : aI w 153 (10 * i1) ∧ (if (aG w 153 (10 * i1)) ≤ i4 then (r = some (.int i3) ∧ w' = w) else (if i3 = 0 then (∃ (r1 : Option Value) (w2 : pm_W), PS X k 234 0 [.ref 147, .int i1, .int i4] [] w r1 w2 ∧ (∀ x3 : Int32, r1 = some (.int x3) → SK w2 → (if x3 = i2 then (PS X k 239 5 [.ref 147, .int i1, .int i2, .int 1, .int (i4 + 1)] [] w2 r w') else (PS X k 239 5 [.ref 147, .int i1, .int i2, .int 0, .int (i4 + 1)] [] w2 r w')))) else (PS X k 239 5 [.ref 147, .int i1, .int i2, .int 1, .int (i4 + 1)] [] w r w'))) := by
  have h := sp_one (i := .iload 4) (by decide +kernel) rfl h
  have h := sp_onk (i := .aload_n 0) (by decide +kernel) rfl h
  have h := sp_getK (jj := 26) (ci := 12) (n := 13) (b := 153) (by decide +kernel) (by decide +kernel) (by decide +kernel) (by decide +kernel) (by decide) hS h
  have h := sp_bipush (n := 10) (v := 10) (by decide +kernel) (by decide +kernel) h
  have h := sp_onk (i := .iload_n 1) (by decide +kernel) rfl h
  have h := sp_onk (i := .imul) (by decide +kernel) rfl h
  obtain ⟨hi, h⟩ := sp_iald (by decide +kernel) h
  refine ⟨hi, ?_⟩
  rcases sp_icmp_ge (mi := 239) (pc := 16) (off := 30) (t := 46) (by decide +kernel) (by decide) rfl h with ⟨hc, h⟩ | ⟨hc, h⟩
  · refine ite_t hc ?_
    have h := sp_onk (i := .iload_n 3) (by decide +kernel) rfl h
    exact sp_iret (by decide +kernel) h
  · refine ite_f hc ?_
    have h := sp_onk (i := .iload_n 3) (by decide +kernel) rfl h
    rcases sp_if_ne (mi := 239) (pc := 20) (off := 14) (t := 34) (by decide +kernel) (by decide) rfl h with ⟨hc, h⟩ | ⟨hc, h⟩
    · refine ite_f hc ?_
      have h := sp_iconst (n := 1) (v := 1) (by decide +kernel) (by decide +kernel) h
      have h := sp_goto (mi := 239) (pc := 35) (off := 4) (t := 39) (by decide +kernel) (by decide) rfl h
      have h := sp_istore_n (j := 3) (ls' := [.ref 147, .int i1, .int i2, .int 1, .int i4]) (by decide +kernel) (Nat.le_of_ble_eq_true rfl) rfl h
      have h := sp_iinc (j := 4) (n := 1) (v := 1) (ls' := [.ref 147, .int i1, .int i2, .int 1, .int (i4 + 1)]) (by decide +kernel) rfl (by decide +kernel) rfl h
      have h := sp_goto (mi := 239) (pc := 43) (off := (-38)) (t := 5) (by decide +kernel) (by decide) rfl h
      exact h
    · refine ite_t (Classical.not_not.mp hc) ?_
      have h := sp_onk (i := .aload_n 0) (by decide +kernel) rfl h
      have h := sp_onk (i := .iload_n 1) (by decide +kernel) rfl h
      have h := sp_onk (i := .iload 4) (by decide +kernel) rfl h
      obtain ⟨r1, w2, hc, h⟩ := sp_callV (jj := 184) (mj := 234) (n := 2) (v := .ref 147) (args := [.int i4, .int i1]) (ls' := [.ref 147, .int i1, .int i4]) (by decide +kernel) (by decide +kernel) rfl rfl rfl h
      refine ⟨r1, w2, hc, fun x3 er hSw2 => ?_⟩
      subst er
      have h : PS X k 239 30 [.ref 147, .int i1, .int i2, .int i3, .int i4] [.int x3] w2 r w' := h
      have h := sp_onk (i := .iload_n 2) (by decide +kernel) rfl h
      rcases sp_icmp_ne (mi := 239) (pc := 31) (off := 7) (t := 38) (by decide +kernel) (by decide) rfl h with ⟨hc, h⟩ | ⟨hc, h⟩
      · refine ite_f hc ?_
        have h := sp_iconst (n := 0) (v := 0) (by decide +kernel) (by decide +kernel) h
        have h := sp_istore_n (j := 3) (ls' := [.ref 147, .int i1, .int i2, .int 0, .int i4]) (by decide +kernel) (Nat.le_of_ble_eq_true rfl) rfl h
        have h := sp_iinc (j := 4) (n := 1) (v := 1) (ls' := [.ref 147, .int i1, .int i2, .int 0, .int (i4 + 1)]) (by decide +kernel) rfl (by decide +kernel) rfl h
        have h := sp_goto (mi := 239) (pc := 43) (off := (-38)) (t := 5) (by decide +kernel) (by decide) rfl h
        exact h
      · refine ite_t (Classical.not_not.mp hc) ?_
        have h := sp_iconst (n := 1) (v := 1) (by decide +kernel) (by decide +kernel) h
        have h := sp_goto (mi := 239) (pc := 35) (off := 4) (t := 39) (by decide +kernel) (by decide) rfl h
        have h := sp_istore_n (j := 3) (ls' := [.ref 147, .int i1, .int i2, .int 1, .int i4]) (by decide +kernel) (Nat.le_of_ble_eq_true rfl) rfl h
        have h := sp_iinc (j := 4) (n := 1) (v := 1) (ls' := [.ref 147, .int i1, .int i2, .int 1, .int (i4 + 1)]) (by decide +kernel) rfl (by decide +kernel) rfl h
        have h := sp_goto (mi := 239) (pc := 43) (off := (-38)) (t := 5) (by decide +kernel) (by decide) rfl h
        exact h
set_option maxRecDepth 20000 in
set_option maxHeartbeats 2000000 in
theorem U240_0 {X : pm_X} {k : Nat} {w w' : pm_W} {r : Option Value} (hS : SK w) (h : PS X (k + 1) 240 0 [.ref 147, pm_dead] [] w r w') : ∀ w1 : pm_W, w1 = sI w 147 15 ((gI w 147 15) + 1) → (PS X k 240 12 [.ref 147, .int 0] [] w1 r w') := by
  have h := sp_one (i := .aload_n 0) (by decide +kernel) rfl h
  have h := sp_onk (i := .dup) (by decide +kernel) rfl h
  have h := sp_getI (jj := 178) (ci := 12) (n := 15) (by decide +kernel) (by decide +kernel) (by decide +kernel) hS h
  have h := sp_iconst (n := 1) (v := 1) (by decide +kernel) (by decide +kernel) h
  have h := sp_onk (i := .iadd) (by decide +kernel) rfl h
  have h := sp_putI (jj := 178) (ci := 12) (n := 15) (ty := .int) (by decide +kernel) (by decide +kernel) (by decide +kernel) hS h
  intro w1 ew1
  rw [← ew1] at h
  have hSw1 : SK w1 := by rw [ew1]; exact SK_sI hS
  have h := sp_iconst (n := 0) (v := 0) (by decide +kernel) (by decide +kernel) h
  have h := sp_istore_n (j := 1) (ls' := [.ref 147, .int 0]) (by decide +kernel) (Nat.le_of_ble_eq_true rfl) rfl h
  exact h
set_option maxRecDepth 20000 in
set_option maxHeartbeats 2000000 in
theorem U240_12 {X : pm_X} {k : Nat} {w w' : pm_W} {r : Option Value} {i1 : Int32} (hS : SK w) (h : PS X (k + 1) 240 12 [.ref 147, .int i1] [] w r w') : if (gI w 147 14) ≤ i1 then (r = none ∧ w' = w) else (∃ (r1 : Option Value) (w2 : pm_W), PS X k 236 0 [.ref 147, .int i1] [] w r1 w2 ∧ (∀ x3 : Int32, r1 = some (.int x3) → SK w2 → (if x3 = 0 then (PS X k 240 12 [.ref 147, .int (i1 + 1)] [] w2 r w') else (aI w2 153 ((10 * i1) + 2) ∧ (if (gI w2 147 15) ≤ (aG w2 153 ((10 * i1) + 2)) then (PS X k 240 12 [.ref 147, .int (i1 + 1)] [] w2 r w') else (∃ (r4 : Option Value) (w5 : pm_W), PS X k 237 0 [.ref 147, .int i1, pm_dead, pm_dead] [] w2 r4 w5 ∧ (r4 = none → SK w5 → (PS X k 240 12 [.ref 147, .int (i1 + 1)] [] w5 r w')))))))) := by
  have h := sp_one (i := .iload_n 1) (by decide +kernel) rfl h
  have h := sp_onk (i := .aload_n 0) (by decide +kernel) rfl h
  have h := sp_getI (jj := 175) (ci := 12) (n := 14) (by decide +kernel) (by decide +kernel) (by decide +kernel) hS h
  rcases sp_icmp_ge (mi := 240) (pc := 17) (off := 40) (t := 57) (by decide +kernel) (by decide) rfl h with ⟨hc, h⟩ | ⟨hc, h⟩
  · refine ite_t hc ?_
    exact sp_vret (by decide +kernel) h
  · refine ite_f hc ?_
    have h := sp_onk (i := .aload_n 0) (by decide +kernel) rfl h
    have h := sp_onk (i := .iload_n 1) (by decide +kernel) rfl h
    obtain ⟨r1, w2, hc, h⟩ := sp_callV (jj := 190) (mj := 236) (n := 1) (v := .ref 147) (args := [.int i1]) (ls' := [.ref 147, .int i1]) (by decide +kernel) (by decide +kernel) rfl rfl rfl h
    refine ⟨r1, w2, hc, fun x3 er hSw2 => ?_⟩
    subst er
    have h : PS X k 240 25 [.ref 147, .int i1] [.int x3] w2 r w' := h
    rcases sp_if_eq (mi := 240) (pc := 25) (off := 26) (t := 51) (by decide +kernel) (by decide) rfl h with ⟨hc, h⟩ | ⟨hc, h⟩
    · refine ite_t hc ?_
      have h := sp_iinc (j := 1) (n := 1) (v := 1) (ls' := [.ref 147, .int (i1 + 1)]) (by decide +kernel) rfl (by decide +kernel) rfl h
      have h := sp_goto (mi := 240) (pc := 54) (off := (-42)) (t := 12) (by decide +kernel) (by decide) rfl h
      exact h
    · refine ite_f hc ?_
      have h := sp_onk (i := .aload_n 0) (by decide +kernel) rfl h
      have h := sp_getK (jj := 26) (ci := 12) (n := 13) (b := 153) (by decide +kernel) (by decide +kernel) (by decide +kernel) (by decide +kernel) (by decide) hSw2 h
      have h := sp_bipush (n := 10) (v := 10) (by decide +kernel) (by decide +kernel) h
      have h := sp_onk (i := .iload_n 1) (by decide +kernel) rfl h
      have h := sp_onk (i := .imul) (by decide +kernel) rfl h
      have h := sp_iconst (n := 2) (v := 2) (by decide +kernel) (by decide +kernel) h
      have h := sp_onk (i := .iadd) (by decide +kernel) rfl h
      obtain ⟨hi, h⟩ := sp_iald (by decide +kernel) h
      refine ⟨hi, ?_⟩
      have h := sp_onk (i := .aload_n 0) (by decide +kernel) rfl h
      have h := sp_getI (jj := 178) (ci := 12) (n := 15) (by decide +kernel) (by decide +kernel) (by decide +kernel) hSw2 h
      rcases sp_icmp_ge (mi := 240) (pc := 43) (off := 8) (t := 51) (by decide +kernel) (by decide) rfl h with ⟨hc, h⟩ | ⟨hc, h⟩
      · refine ite_t hc ?_
        have h := sp_iinc (j := 1) (n := 1) (v := 1) (ls' := [.ref 147, .int (i1 + 1)]) (by decide +kernel) rfl (by decide +kernel) rfl h
        have h := sp_goto (mi := 240) (pc := 54) (off := (-42)) (t := 12) (by decide +kernel) (by decide) rfl h
        exact h
      · refine ite_f hc ?_
        have h := sp_onk (i := .aload_n 0) (by decide +kernel) rfl h
        have h := sp_onk (i := .iload_n 1) (by decide +kernel) rfl h
        obtain ⟨r4, w5, hc, h⟩ := sp_callV (jj := 196) (mj := 237) (n := 1) (v := .ref 147) (args := [.int i1]) (ls' := [.ref 147, .int i1, pm_dead, pm_dead]) (by decide +kernel) (by decide +kernel) rfl rfl rfl h
        refine ⟨r4, w5, hc, fun er hSw5 => ?_⟩
        subst er
        have h : PS X k 240 51 [.ref 147, .int i1] [] w5 r w' := h
        have h := sp_iinc (j := 1) (n := 1) (v := 1) (ls' := [.ref 147, .int (i1 + 1)]) (by decide +kernel) rfl (by decide +kernel) rfl h
        have h := sp_goto (mi := 240) (pc := 54) (off := (-42)) (t := 12) (by decide +kernel) (by decide) rfl h
        exact h
set_option maxRecDepth 20000 in
set_option maxHeartbeats 2000000 in
theorem U241_0 {X : pm_X} {k : Nat} {w w' : pm_W} {r : Option Value} {p1 : Int32} (hS : SK w) (h : PS X (k + 1) 241 0 [.ref 147, .int p1, pm_dead, pm_dead] [] w r w') : PS X k 241 4 [.ref 147, .int p1, .int 1, .int 0] [] w r w' := by
  have h := sp_iconst1 (n := 1) (v := 1) (by decide +kernel) (by decide +kernel) h
  have h := sp_istore_n (j := 2) (ls' := [.ref 147, .int p1, .int 1, pm_dead]) (by decide +kernel) (Nat.le_of_ble_eq_true rfl) rfl h
  have h := sp_iconst (n := 0) (v := 0) (by decide +kernel) (by decide +kernel) h
  have h := sp_istore_n (j := 3) (ls' := [.ref 147, .int p1, .int 1, .int 0]) (by decide +kernel) (Nat.le_of_ble_eq_true rfl) rfl h
  exact h
set_option maxRecDepth 20000 in
set_option maxHeartbeats 2000000 in
theorem U241_4 {X : pm_X} {k : Nat} {w w' : pm_W} {r : Option Value} {i1 : Int32} {i2 : Int32} {i3 : Int32} (hS : SK w) (h : PS X (k + 1) 241 4 [.ref 147, .int i1, .int i2, .int i3] [] w r w') : aI w 148 i1 ∧ (if (aG w 148 i1) ≤ i3 then (r = some (.int i2) ∧ w' = w) else (if i2 = 0 then (PS X k 241 4 [.ref 147, .int i1, .int 0, .int (i3 + 1)] [] w r w') else (∃ (r1 : Option Value) (w2 : pm_W), PS X k 242 0 [.ref 147, .int i1, .int i3, pm_dead, pm_dead] [] w r1 w2 ∧ (∀ x3 : Int32, r1 = some (.int x3) → SK w2 → (aI w2 148 (i1 + 2) ∧ (aI w2 148 (i1 + 2) ∧ (∃ (r4 : Option Value) (w5 : pm_W), PS X k 199 0 [.int x3, .int (-(aG w2 148 (i1 + 2))), .int (aG w2 148 (i1 + 2))] [] w2 r4 w5 ∧ (∀ x6 : Int32, r4 = some (.int x6) → SK w5 → (if x6 = 0 then (PS X k 241 4 [.ref 147, .int i1, .int 0, .int (i3 + 1)] [] w5 r w') else (PS X k 241 4 [.ref 147, .int i1, .int 1, .int (i3 + 1)] [] w5 r w')))))))))) := by
  have h := sp_one (i := .iload_n 3) (by decide +kernel) rfl h
  have h := sp_onk (i := .aload_n 0) (by decide +kernel) rfl h
  have h := sp_getK (jj := 7) (ci := 12) (n := 0) (b := 148) (by decide +kernel) (by decide +kernel) (by decide +kernel) (by decide +kernel) (by decide) hS h
  have h := sp_onk (i := .iload_n 1) (by decide +kernel) rfl h
  obtain ⟨hi, h⟩ := sp_iald (by decide +kernel) h
  refine ⟨hi, ?_⟩
  rcases sp_icmp_ge (mi := 241) (pc := 11) (off := 48) (t := 59) (by decide +kernel) (by decide) rfl h with ⟨hc, h⟩ | ⟨hc, h⟩
  · refine ite_t hc ?_
    have h := sp_onk (i := .iload_n 2) (by decide +kernel) rfl h
    exact sp_iret (by decide +kernel) h
  · refine ite_f hc ?_
    have h := sp_onk (i := .iload_n 2) (by decide +kernel) rfl h
    rcases sp_if_eq (mi := 241) (pc := 15) (off := 36) (t := 51) (by decide +kernel) (by decide) rfl h with ⟨hc, h⟩ | ⟨hc, h⟩
    · refine ite_t hc ?_
      have h := sp_iconst (n := 0) (v := 0) (by decide +kernel) (by decide +kernel) h
      have h := sp_istore_n (j := 2) (ls' := [.ref 147, .int i1, .int 0, .int i3]) (by decide +kernel) (Nat.le_of_ble_eq_true rfl) rfl h
      have h := sp_iinc (j := 3) (n := 1) (v := 1) (ls' := [.ref 147, .int i1, .int 0, .int (i3 + 1)]) (by decide +kernel) rfl (by decide +kernel) rfl h
      have h := sp_goto (mi := 241) (pc := 56) (off := (-52)) (t := 4) (by decide +kernel) (by decide) rfl h
      exact h
    · refine ite_f hc ?_
      have h := sp_onk (i := .aload_n 0) (by decide +kernel) rfl h
      have h := sp_onk (i := .iload_n 1) (by decide +kernel) rfl h
      have h := sp_onk (i := .iload_n 3) (by decide +kernel) rfl h
      obtain ⟨r1, w2, hc, h⟩ := sp_callV (jj := 211) (mj := 242) (n := 2) (v := .ref 147) (args := [.int i3, .int i1]) (ls' := [.ref 147, .int i1, .int i3, pm_dead, pm_dead]) (by decide +kernel) (by decide +kernel) rfl rfl rfl h
      refine ⟨r1, w2, hc, fun x3 er hSw2 => ?_⟩
      subst er
      have h : PS X k 241 24 [.ref 147, .int i1, .int i2, .int i3] [.int x3] w2 r w' := h
      have h := sp_onk (i := .aload_n 0) (by decide +kernel) rfl h
      have h := sp_getK (jj := 7) (ci := 12) (n := 0) (b := 148) (by decide +kernel) (by decide +kernel) (by decide +kernel) (by decide +kernel) (by decide) hSw2 h
      have h := sp_onk (i := .iload_n 1) (by decide +kernel) rfl h
      have h := sp_iconst (n := 2) (v := 2) (by decide +kernel) (by decide +kernel) h
      have h := sp_onk (i := .iadd) (by decide +kernel) rfl h
      obtain ⟨hi, h⟩ := sp_iald (by decide +kernel) h
      refine ⟨hi, ?_⟩
      have h := sp_onk (i := .ineg) (by decide +kernel) rfl h
      have h := sp_onk (i := .aload_n 0) (by decide +kernel) rfl h
      have h := sp_getK (jj := 7) (ci := 12) (n := 0) (b := 148) (by decide +kernel) (by decide +kernel) (by decide +kernel) (by decide +kernel) (by decide) hSw2 h
      have h := sp_onk (i := .iload_n 1) (by decide +kernel) rfl h
      have h := sp_iconst (n := 2) (v := 2) (by decide +kernel) (by decide +kernel) h
      have h := sp_onk (i := .iadd) (by decide +kernel) rfl h
      obtain ⟨hi, h⟩ := sp_iald (by decide +kernel) h
      refine ⟨hi, ?_⟩
      obtain ⟨r4, w5, hc, h⟩ := sp_callS (jj := 119) (mj := 199) (n := 3) (args := [.int (aG w2 148 (i1 + 2)), .int (-(aG w2 148 (i1 + 2))), .int x3]) (ls' := [.int x3, .int (-(aG w2 148 (i1 + 2))), .int (aG w2 148 (i1 + 2))]) (by decide +kernel) (by decide +kernel) (by decide +kernel) rfl rfl rfl h
      refine ⟨r4, w5, hc, fun x6 er hSw5 => ?_⟩
      subst er
      have h : PS X k 241 44 [.ref 147, .int i1, .int i2, .int i3] [.int x6] w5 r w' := h
      rcases sp_if_eq (mi := 241) (pc := 44) (off := 7) (t := 51) (by decide +kernel) (by decide) rfl h with ⟨hc, h⟩ | ⟨hc, h⟩
      · refine ite_t hc ?_
        have h := sp_iconst (n := 0) (v := 0) (by decide +kernel) (by decide +kernel) h
        have h := sp_istore_n (j := 2) (ls' := [.ref 147, .int i1, .int 0, .int i3]) (by decide +kernel) (Nat.le_of_ble_eq_true rfl) rfl h
        have h := sp_iinc (j := 3) (n := 1) (v := 1) (ls' := [.ref 147, .int i1, .int 0, .int (i3 + 1)]) (by decide +kernel) rfl (by decide +kernel) rfl h
        have h := sp_goto (mi := 241) (pc := 56) (off := (-52)) (t := 4) (by decide +kernel) (by decide) rfl h
        exact h
      · refine ite_f hc ?_
        have h := sp_iconst (n := 1) (v := 1) (by decide +kernel) (by decide +kernel) h
        have h := sp_goto (mi := 241) (pc := 48) (off := 4) (t := 52) (by decide +kernel) (by decide) rfl h
        have h := sp_istore_n (j := 2) (ls' := [.ref 147, .int i1, .int 1, .int i3]) (by decide +kernel) (Nat.le_of_ble_eq_true rfl) rfl h
        have h := sp_iinc (j := 3) (n := 1) (v := 1) (ls' := [.ref 147, .int i1, .int 1, .int (i3 + 1)]) (by decide +kernel) rfl (by decide +kernel) rfl h
        have h := sp_goto (mi := 241) (pc := 56) (off := (-52)) (t := 4) (by decide +kernel) (by decide) rfl h
        exact h
set_option maxRecDepth 20000 in
set_option maxHeartbeats 2000000 in
theorem U242_0 {X : pm_X} {k : Nat} {w w' : pm_W} {r : Option Value} {p1 : Int32} {p2 : Int32} (hS : SK w) (h : PS X (k + 1) 242 0 [.ref 147, .int p1, .int p2, pm_dead, pm_dead] [] w r w') : PS X k 242 5 [.ref 147, .int p1, .int p2, .int 0, .int 0] [] w r w' := by
  have h := sp_iconst1 (n := 0) (v := 0) (by decide +kernel) (by decide +kernel) h
  have h := sp_istore_n (j := 3) (ls' := [.ref 147, .int p1, .int p2, .int 0, pm_dead]) (by decide +kernel) (Nat.le_of_ble_eq_true rfl) rfl h
  have h := sp_iconst (n := 0) (v := 0) (by decide +kernel) (by decide +kernel) h
  have h := sp_istore (j := 4) (ls' := [.ref 147, .int p1, .int p2, .int 0, .int 0]) (by decide +kernel) (Nat.le_of_ble_eq_true rfl) rfl h
  exact h
set_option maxRecDepth 20000 in
set_option maxHeartbeats 2000000 in
theorem U242_5 {X : pm_X} {k : Nat} {w w' : pm_W} {r : Option Value} {i1 : Int32} {i2 : Int32} {i3 : Int32} {i4 : Int32} (hS : SK w) (h : PS X (k + 1) 242 5 [.ref 147, .int i1, .int i2, .int i3, .int i4] [] w r w') : aI w 148 i1 ∧ (if (aG w 148 i1) ≤ i4 then (r = some (.int i3) ∧ w' = w) else (∃ (r1 : Option Value) (w2 : pm_W), PS X k 232 0 [.ref 147, .int i2, .int i4] [] w r1 w2 ∧ (∀ x3 : Int32, r1 = some (.int x3) → SK w2 → (∃ (r4 : Option Value) (w5 : pm_W), PS X k 232 0 [.ref 147, .int i4, .int i2] [] w2 r4 w5 ∧ (∀ x6 : Int32, r4 = some (.int x6) → SK w5 → (PS X k 242 5 [.ref 147, .int i1, .int i2, .int (i3 + (x3 - x6)), .int (i4 + 1)] [] w5 r w')))))) := by
  have h := sp_one (i := .iload 4) (by decide +kernel) rfl h
  have h := sp_onk (i := .aload_n 0) (by decide +kernel) rfl h
  have h := sp_getK (jj := 7) (ci := 12) (n := 0) (b := 148) (by decide +kernel) (by decide +kernel) (by decide +kernel) (by decide +kernel) (by decide) hS h
  have h := sp_onk (i := .iload_n 1) (by decide +kernel) rfl h
  obtain ⟨hi, h⟩ := sp_iald (by decide +kernel) h
  refine ⟨hi, ?_⟩
  rcases sp_icmp_ge (mi := 242) (pc := 13) (off := 27) (t := 40) (by decide +kernel) (by decide) rfl h with ⟨hc, h⟩ | ⟨hc, h⟩
  · refine ite_t hc ?_
    have h := sp_onk (i := .iload_n 3) (by decide +kernel) rfl h
    exact sp_iret (by decide +kernel) h
  · refine ite_f hc ?_
    have h := sp_onk (i := .iload_n 3) (by decide +kernel) rfl h
    have h := sp_onk (i := .aload_n 0) (by decide +kernel) rfl h
    have h := sp_onk (i := .iload_n 2) (by decide +kernel) rfl h
    have h := sp_onk (i := .iload 4) (by decide +kernel) rfl h
    obtain ⟨r1, w2, hc, h⟩ := sp_callV (jj := 181) (mj := 232) (n := 2) (v := .ref 147) (args := [.int i4, .int i2]) (ls' := [.ref 147, .int i2, .int i4]) (by decide +kernel) (by decide +kernel) rfl rfl rfl h
    refine ⟨r1, w2, hc, fun x3 er hSw2 => ?_⟩
    subst er
    have h : PS X k 242 24 [.ref 147, .int i1, .int i2, .int i3, .int i4] [.int x3, .int i3] w2 r w' := h
    have h := sp_onk (i := .aload_n 0) (by decide +kernel) rfl h
    have h := sp_onk (i := .iload 4) (by decide +kernel) rfl h
    have h := sp_onk (i := .iload_n 2) (by decide +kernel) rfl h
    obtain ⟨r4, w5, hc, h⟩ := sp_callV (jj := 181) (mj := 232) (n := 2) (v := .ref 147) (args := [.int i2, .int i4]) (ls' := [.ref 147, .int i4, .int i2]) (by decide +kernel) (by decide +kernel) rfl rfl rfl h
    refine ⟨r4, w5, hc, fun x6 er hSw5 => ?_⟩
    subst er
    have h : PS X k 242 31 [.ref 147, .int i1, .int i2, .int i3, .int i4] [.int x6, .int x3, .int i3] w5 r w' := h
    have h := sp_onk (i := .isub) (by decide +kernel) rfl h
    have h := sp_onk (i := .iadd) (by decide +kernel) rfl h
    have h := sp_istore_n (j := 3) (ls' := [.ref 147, .int i1, .int i2, .int (i3 + (x3 - x6)), .int i4]) (by decide +kernel) (Nat.le_of_ble_eq_true rfl) rfl h
    have h := sp_iinc (j := 4) (n := 1) (v := 1) (ls' := [.ref 147, .int i1, .int i2, .int (i3 + (x3 - x6)), .int (i4 + 1)]) (by decide +kernel) rfl (by decide +kernel) rfl h
    have h := sp_goto (mi := 242) (pc := 37) (off := (-32)) (t := 5) (by decide +kernel) (by decide) rfl h
    exact h
set_option maxRecDepth 20000 in
set_option maxHeartbeats 2000000 in
theorem U245_0 {X : pm_X} {k : Nat} {w w' : pm_W} {r : Option Value} {p1 : Int32} {p2 : Int32} {p3 : Int32} {p4 : Int32} {p5 : Int32} (hS : SK w) (h : PS X (k + 1) 245 0 [.ref 147, .int p1, .int p2, .int p3, .int p4, .int p5] [] w r w') : ∃ (r1 : Option Value) (w2 : pm_W), PS X k 246 0 [.ref 147, .int p1, .int p2, .int p3] [] w r1 w2 ∧ (∀ x3 : Int32, r1 = some (.int x3) → SK w2 → (if x3 = 0 then (r = some (.int 0) ∧ w' = w2) else (∃ (r4 : Option Value) (w5 : pm_W), PS X k 217 0 [.int 0, .int p1] [] w2 r4 w5 ∧ (∀ x6 : Int32, r4 = some (.int x6) → SK w5 → (∃ (r7 : Option Value) (w8 : pm_W), PS X k 221 0 [.ref 147, .int x6, .int p4] [] w5 r7 w8 ∧ (∀ x9 : Int32, r7 = some (.int x9) → SK w8 → (if x9 = 0 then (r = some (.int 0) ∧ w' = w8) else (∃ (r10 : Option Value) (w11 : pm_W), PS X k 217 0 [.int 0, .int p1] [] w8 r10 w11 ∧ (∀ x12 : Int32, r10 = some (.int x12) → SK w11 → (∃ (r13 : Option Value) (w14 : pm_W), PS X k 221 0 [.ref 147, .int x12, .int p5] [] w11 r13 w14 ∧ (∀ x15 : Int32, r13 = some (.int x15) → SK w14 → (if x15 = 0 then (r = some (.int 0) ∧ w' = w14) else (r = some (.int 1) ∧ w' = w14))))))))))))) := by
  have h := sp_one (i := .aload_n 0) (by decide +kernel) rfl h
  have h := sp_onk (i := .iload_n 1) (by decide +kernel) rfl h
  have h := sp_onk (i := .iload_n 2) (by decide +kernel) rfl h
  have h := sp_onk (i := .iload_n 3) (by decide +kernel) rfl h
  obtain ⟨r1, w2, hc, h⟩ := sp_callV (jj := 232) (mj := 246) (n := 3) (v := .ref 147) (args := [.int p3, .int p2, .int p1]) (ls' := [.ref 147, .int p1, .int p2, .int p3]) (by decide +kernel) (by decide +kernel) rfl rfl rfl h
  refine ⟨r1, w2, hc, fun x3 er hSw2 => ?_⟩
  subst er
  have h : PS X k 245 7 [.ref 147, .int p1, .int p2, .int p3, .int p4, .int p5] [.int x3] w2 r w' := h
  rcases sp_if_eq (mi := 245) (pc := 7) (off := 35) (t := 42) (by decide +kernel) (by decide) rfl h with ⟨hc, h⟩ | ⟨hc, h⟩
  · refine ite_t hc ?_
    have h := sp_iconst (n := 0) (v := 0) (by decide +kernel) (by decide +kernel) h
    exact sp_iret (by decide +kernel) h
  · refine ite_f hc ?_
    have h := sp_onk (i := .aload_n 0) (by decide +kernel) rfl h
    have h := sp_iconst (n := 0) (v := 0) (by decide +kernel) (by decide +kernel) h
    have h := sp_onk (i := .iload_n 1) (by decide +kernel) rfl h
    obtain ⟨r4, w5, hc, h⟩ := sp_callS (jj := 163) (mj := 217) (n := 2) (args := [.int p1, .int 0]) (ls' := [.int 0, .int p1]) (by decide +kernel) (by decide +kernel) (by decide +kernel) rfl rfl rfl h
    refine ⟨r4, w5, hc, fun x6 er hSw5 => ?_⟩
    subst er
    have h : PS X k 245 16 [.ref 147, .int p1, .int p2, .int p3, .int p4, .int p5] [.int x6, .ref 147] w5 r w' := h
    have h := sp_onk (i := .iload 4) (by decide +kernel) rfl h
    obtain ⟨r7, w8, hc, h⟩ := sp_callV (jj := 166) (mj := 221) (n := 2) (v := .ref 147) (args := [.int p4, .int x6]) (ls' := [.ref 147, .int x6, .int p4]) (by decide +kernel) (by decide +kernel) rfl rfl rfl h
    refine ⟨r7, w8, hc, fun x9 er hSw8 => ?_⟩
    subst er
    have h : PS X k 245 21 [.ref 147, .int p1, .int p2, .int p3, .int p4, .int p5] [.int x9] w8 r w' := h
    rcases sp_if_eq (mi := 245) (pc := 21) (off := 21) (t := 42) (by decide +kernel) (by decide) rfl h with ⟨hc, h⟩ | ⟨hc, h⟩
    · refine ite_t hc ?_
      have h := sp_iconst (n := 0) (v := 0) (by decide +kernel) (by decide +kernel) h
      exact sp_iret (by decide +kernel) h
    · refine ite_f hc ?_
      have h := sp_onk (i := .aload_n 0) (by decide +kernel) rfl h
      have h := sp_iconst (n := 0) (v := 0) (by decide +kernel) (by decide +kernel) h
      have h := sp_onk (i := .iload_n 1) (by decide +kernel) rfl h
      obtain ⟨r10, w11, hc, h⟩ := sp_callS (jj := 163) (mj := 217) (n := 2) (args := [.int p1, .int 0]) (ls' := [.int 0, .int p1]) (by decide +kernel) (by decide +kernel) (by decide +kernel) rfl rfl rfl h
      refine ⟨r10, w11, hc, fun x12 er hSw11 => ?_⟩
      subst er
      have h : PS X k 245 30 [.ref 147, .int p1, .int p2, .int p3, .int p4, .int p5] [.int x12, .ref 147] w11 r w' := h
      have h := sp_onk (i := .iload 5) (by decide +kernel) rfl h
      obtain ⟨r13, w14, hc, h⟩ := sp_callV (jj := 166) (mj := 221) (n := 2) (v := .ref 147) (args := [.int p5, .int x12]) (ls' := [.ref 147, .int x12, .int p5]) (by decide +kernel) (by decide +kernel) rfl rfl rfl h
      refine ⟨r13, w14, hc, fun x15 er hSw14 => ?_⟩
      subst er
      have h : PS X k 245 35 [.ref 147, .int p1, .int p2, .int p3, .int p4, .int p5] [.int x15] w14 r w' := h
      rcases sp_if_eq (mi := 245) (pc := 35) (off := 7) (t := 42) (by decide +kernel) (by decide) rfl h with ⟨hc, h⟩ | ⟨hc, h⟩
      · refine ite_t hc ?_
        have h := sp_iconst (n := 0) (v := 0) (by decide +kernel) (by decide +kernel) h
        exact sp_iret (by decide +kernel) h
      · refine ite_f hc ?_
        have h := sp_iconst (n := 1) (v := 1) (by decide +kernel) (by decide +kernel) h
        have h := sp_goto (mi := 245) (pc := 39) (off := 4) (t := 43) (by decide +kernel) (by decide) rfl h
        exact sp_iret (by decide +kernel) h
set_option maxRecDepth 20000 in
set_option maxHeartbeats 2000000 in
theorem U246_0 {X : pm_X} {k : Nat} {w w' : pm_W} {r : Option Value} {p1 : Int32} {p2 : Int32} {p3 : Int32} (hS : SK w) (h : PS X (k + 1) 246 0 [.ref 147, .int p1, .int p2, .int p3] [] w r w') : ∃ (r1 : Option Value) (w2 : pm_W), PS X k 200 0 [.ref 147, .int 0, .int p1] [] w r1 w2 ∧ (∀ x3 : Int32, r1 = some (.int x3) → SK w2 → (if x3 = 0 then (r = some (.int 0) ∧ w' = w2) else (if p3 < 0 then (r = some (.int 0) ∧ w' = w2) else (if p2 = (-1) then (∃ (r4 : Option Value) (w5 : pm_W), PS X k 229 0 [.ref 147, pm_dead] [] w2 r4 w5 ∧ (r4 = none → SK w5 → (if p2 = (-1) then (if p3 = 0 then (r = some (.int 1) ∧ w' = w5) else (r = some (.int 0) ∧ w' = w5)) else (∃ (r6 : Option Value) (w7 : pm_W), PS X k 217 0 [.int 0, .int p1] [] w5 r6 w7 ∧ (∀ x8 : Int32, r6 = some (.int x8) → SK w7 → (∃ (r9 : Option Value) (w10 : pm_W), PS X k 228 0 [.ref 147, .int x8, .int p2, .int p3, pm_dead] [] w7 r9 w10 ∧ (∀ x11 : Int32, r9 = some (.int x11) → SK w10 → (if x11 = p3 then (r = some (.int 1) ∧ w' = w10) else (r = some (.int 0) ∧ w' = w10))))))))) else (∃ (r12 : Option Value) (w13 : pm_W), PS X k 200 0 [.ref 147, .int 1, .int p2] [] w2 r12 w13 ∧ (∀ x14 : Int32, r12 = some (.int x14) → SK w13 → (if x14 = 0 then (r = some (.int 0) ∧ w' = w13) else (∃ (r15 : Option Value) (w16 : pm_W), PS X k 229 0 [.ref 147, pm_dead] [] w13 r15 w16 ∧ (r15 = none → SK w16 → (if p2 = (-1) then (if p3 = 0 then (r = some (.int 1) ∧ w' = w16) else (r = some (.int 0) ∧ w' = w16)) else (∃ (r17 : Option Value) (w18 : pm_W), PS X k 217 0 [.int 0, .int p1] [] w16 r17 w18 ∧ (∀ x19 : Int32, r17 = some (.int x19) → SK w18 → (∃ (r20 : Option Value) (w21 : pm_W), PS X k 228 0 [.ref 147, .int x19, .int p2, .int p3, pm_dead] [] w18 r20 w21 ∧ (∀ x22 : Int32, r20 = some (.int x22) → SK w21 → (if x22 = p3 then (r = some (.int 1) ∧ w' = w21) else (r = some (.int 0) ∧ w' = w21)))))))))))))))) := by
  have h := sp_one (i := .aload_n 0) (by decide +kernel) rfl h
  have h := sp_iconst (n := 0) (v := 0) (by decide +kernel) (by decide +kernel) h
  have h := sp_onk (i := .iload_n 1) (by decide +kernel) rfl h
  obtain ⟨r1, w2, hc, h⟩ := sp_callV (jj := 153) (mj := 200) (n := 2) (v := .ref 147) (args := [.int p1, .int 0]) (ls' := [.ref 147, .int 0, .int p1]) (by decide +kernel) (by decide +kernel) rfl rfl rfl h
  refine ⟨r1, w2, hc, fun x3 er hSw2 => ?_⟩
  subst er
  have h : PS X k 246 6 [.ref 147, .int p1, .int p2, .int p3] [.int x3] w2 r w' := h
  rcases sp_if_eq (mi := 246) (pc := 6) (off := 21) (t := 27) (by decide +kernel) (by decide) rfl h with ⟨hc, h⟩ | ⟨hc, h⟩
  · refine ite_t hc ?_
    have h := sp_iconst (n := 0) (v := 0) (by decide +kernel) (by decide +kernel) h
    exact sp_iret (by decide +kernel) h
  · refine ite_f hc ?_
    have h := sp_onk (i := .iload_n 3) (by decide +kernel) rfl h
    rcases sp_if_lt (mi := 246) (pc := 10) (off := 17) (t := 27) (by decide +kernel) (by decide) rfl h with ⟨hc, h⟩ | ⟨hc, h⟩
    · refine ite_t hc ?_
      have h := sp_iconst (n := 0) (v := 0) (by decide +kernel) (by decide +kernel) h
      exact sp_iret (by decide +kernel) h
    · refine ite_f hc ?_
      have h := sp_onk (i := .iload_n 2) (by decide +kernel) rfl h
      have h := sp_iconst (n := (-1)) (v := (-1)) (by decide +kernel) (by decide +kernel) h
      rcases sp_icmp_eq (mi := 246) (pc := 15) (off := 14) (t := 29) (by decide +kernel) (by decide) rfl h with ⟨hc, h⟩ | ⟨hc, h⟩
      · refine ite_t hc ?_
        have h := sp_onk (i := .aload_n 0) (by decide +kernel) rfl h
        obtain ⟨r4, w5, hc, h⟩ := sp_callV (jj := 214) (mj := 229) (n := 0) (v := .ref 147) (args := []) (ls' := [.ref 147, pm_dead]) (by decide +kernel) (by decide +kernel) rfl rfl rfl h
        refine ⟨r4, w5, hc, fun er hSw5 => ?_⟩
        subst er
        have h : PS X k 246 33 [.ref 147, .int p1, .int p2, .int p3] [] w5 r w' := h
        have h := sp_onk (i := .iload_n 2) (by decide +kernel) rfl h
        have h := sp_iconst (n := (-1)) (v := (-1)) (by decide +kernel) (by decide +kernel) h
        rcases sp_icmp_ne (mi := 246) (pc := 35) (off := 15) (t := 50) (by decide +kernel) (by decide) rfl h with ⟨hc, h⟩ | ⟨hc, h⟩
        · refine ite_f hc ?_
          have h := sp_onk (i := .aload_n 0) (by decide +kernel) rfl h
          have h := sp_iconst (n := 0) (v := 0) (by decide +kernel) (by decide +kernel) h
          have h := sp_onk (i := .iload_n 1) (by decide +kernel) rfl h
          obtain ⟨r6, w7, hc, h⟩ := sp_callS (jj := 163) (mj := 217) (n := 2) (args := [.int p1, .int 0]) (ls' := [.int 0, .int p1]) (by decide +kernel) (by decide +kernel) (by decide +kernel) rfl rfl rfl h
          refine ⟨r6, w7, hc, fun x8 er hSw7 => ?_⟩
          subst er
          have h : PS X k 246 56 [.ref 147, .int p1, .int p2, .int p3] [.int x8, .ref 147] w7 r w' := h
          have h := sp_onk (i := .iload_n 2) (by decide +kernel) rfl h
          have h := sp_onk (i := .iload_n 3) (by decide +kernel) rfl h
          obtain ⟨r9, w10, hc, h⟩ := sp_callV (jj := 226) (mj := 228) (n := 3) (v := .ref 147) (args := [.int p3, .int p2, .int x8]) (ls' := [.ref 147, .int x8, .int p2, .int p3, pm_dead]) (by decide +kernel) (by decide +kernel) rfl rfl rfl h
          refine ⟨r9, w10, hc, fun x11 er hSw10 => ?_⟩
          subst er
          have h : PS X k 246 61 [.ref 147, .int p1, .int p2, .int p3] [.int x11] w10 r w' := h
          have h := sp_onk (i := .iload_n 3) (by decide +kernel) rfl h
          rcases sp_icmp_ne (mi := 246) (pc := 62) (off := 7) (t := 69) (by decide +kernel) (by decide) rfl h with ⟨hc, h⟩ | ⟨hc, h⟩
          · refine ite_f hc ?_
            have h := sp_iconst (n := 0) (v := 0) (by decide +kernel) (by decide +kernel) h
            exact sp_iret (by decide +kernel) h
          · refine ite_t (Classical.not_not.mp hc) ?_
            have h := sp_iconst (n := 1) (v := 1) (by decide +kernel) (by decide +kernel) h
            have h := sp_goto (mi := 246) (pc := 66) (off := 4) (t := 70) (by decide +kernel) (by decide) rfl h
            exact sp_iret (by decide +kernel) h
        · refine ite_t (Classical.not_not.mp hc) ?_
          have h := sp_onk (i := .iload_n 3) (by decide +kernel) rfl h
          rcases sp_if_ne (mi := 246) (pc := 39) (off := 7) (t := 46) (by decide +kernel) (by decide) rfl h with ⟨hc, h⟩ | ⟨hc, h⟩
          · refine ite_f hc ?_
            have h := sp_iconst (n := 0) (v := 0) (by decide +kernel) (by decide +kernel) h
            have h := sp_goto (mi := 246) (pc := 47) (off := 23) (t := 70) (by decide +kernel) (by decide) rfl h
            exact sp_iret (by decide +kernel) h
          · refine ite_t (Classical.not_not.mp hc) ?_
            have h := sp_iconst (n := 1) (v := 1) (by decide +kernel) (by decide +kernel) h
            have h := sp_goto (mi := 246) (pc := 43) (off := 27) (t := 70) (by decide +kernel) (by decide) rfl h
            exact sp_iret (by decide +kernel) h
      · refine ite_f hc ?_
        have h := sp_onk (i := .aload_n 0) (by decide +kernel) rfl h
        have h := sp_iconst (n := 1) (v := 1) (by decide +kernel) (by decide +kernel) h
        have h := sp_onk (i := .iload_n 2) (by decide +kernel) rfl h
        obtain ⟨r12, w13, hc, h⟩ := sp_callV (jj := 153) (mj := 200) (n := 2) (v := .ref 147) (args := [.int p2, .int 1]) (ls' := [.ref 147, .int 1, .int p2]) (by decide +kernel) (by decide +kernel) rfl rfl rfl h
        refine ⟨r12, w13, hc, fun x14 er hSw13 => ?_⟩
        subst er
        have h : PS X k 246 24 [.ref 147, .int p1, .int p2, .int p3] [.int x14] w13 r w' := h
        rcases sp_if_ne (mi := 246) (pc := 24) (off := 5) (t := 29) (by decide +kernel) (by decide) rfl h with ⟨hc, h⟩ | ⟨hc, h⟩
        · refine ite_f hc ?_
          have h := sp_onk (i := .aload_n 0) (by decide +kernel) rfl h
          obtain ⟨r15, w16, hc, h⟩ := sp_callV (jj := 214) (mj := 229) (n := 0) (v := .ref 147) (args := []) (ls' := [.ref 147, pm_dead]) (by decide +kernel) (by decide +kernel) rfl rfl rfl h
          refine ⟨r15, w16, hc, fun er hSw16 => ?_⟩
          subst er
          have h : PS X k 246 33 [.ref 147, .int p1, .int p2, .int p3] [] w16 r w' := h
          have h := sp_onk (i := .iload_n 2) (by decide +kernel) rfl h
          have h := sp_iconst (n := (-1)) (v := (-1)) (by decide +kernel) (by decide +kernel) h
          rcases sp_icmp_ne (mi := 246) (pc := 35) (off := 15) (t := 50) (by decide +kernel) (by decide) rfl h with ⟨hc, h⟩ | ⟨hc, h⟩
          · refine ite_f hc ?_
            have h := sp_onk (i := .aload_n 0) (by decide +kernel) rfl h
            have h := sp_iconst (n := 0) (v := 0) (by decide +kernel) (by decide +kernel) h
            have h := sp_onk (i := .iload_n 1) (by decide +kernel) rfl h
            obtain ⟨r17, w18, hc, h⟩ := sp_callS (jj := 163) (mj := 217) (n := 2) (args := [.int p1, .int 0]) (ls' := [.int 0, .int p1]) (by decide +kernel) (by decide +kernel) (by decide +kernel) rfl rfl rfl h
            refine ⟨r17, w18, hc, fun x19 er hSw18 => ?_⟩
            subst er
            have h : PS X k 246 56 [.ref 147, .int p1, .int p2, .int p3] [.int x19, .ref 147] w18 r w' := h
            have h := sp_onk (i := .iload_n 2) (by decide +kernel) rfl h
            have h := sp_onk (i := .iload_n 3) (by decide +kernel) rfl h
            obtain ⟨r20, w21, hc, h⟩ := sp_callV (jj := 226) (mj := 228) (n := 3) (v := .ref 147) (args := [.int p3, .int p2, .int x19]) (ls' := [.ref 147, .int x19, .int p2, .int p3, pm_dead]) (by decide +kernel) (by decide +kernel) rfl rfl rfl h
            refine ⟨r20, w21, hc, fun x22 er hSw21 => ?_⟩
            subst er
            have h : PS X k 246 61 [.ref 147, .int p1, .int p2, .int p3] [.int x22] w21 r w' := h
            have h := sp_onk (i := .iload_n 3) (by decide +kernel) rfl h
            rcases sp_icmp_ne (mi := 246) (pc := 62) (off := 7) (t := 69) (by decide +kernel) (by decide) rfl h with ⟨hc, h⟩ | ⟨hc, h⟩
            · refine ite_f hc ?_
              have h := sp_iconst (n := 0) (v := 0) (by decide +kernel) (by decide +kernel) h
              exact sp_iret (by decide +kernel) h
            · refine ite_t (Classical.not_not.mp hc) ?_
              have h := sp_iconst (n := 1) (v := 1) (by decide +kernel) (by decide +kernel) h
              have h := sp_goto (mi := 246) (pc := 66) (off := 4) (t := 70) (by decide +kernel) (by decide) rfl h
              exact sp_iret (by decide +kernel) h
          · refine ite_t (Classical.not_not.mp hc) ?_
            have h := sp_onk (i := .iload_n 3) (by decide +kernel) rfl h
            rcases sp_if_ne (mi := 246) (pc := 39) (off := 7) (t := 46) (by decide +kernel) (by decide) rfl h with ⟨hc, h⟩ | ⟨hc, h⟩
            · refine ite_f hc ?_
              have h := sp_iconst (n := 0) (v := 0) (by decide +kernel) (by decide +kernel) h
              have h := sp_goto (mi := 246) (pc := 47) (off := 23) (t := 70) (by decide +kernel) (by decide) rfl h
              exact sp_iret (by decide +kernel) h
            · refine ite_t (Classical.not_not.mp hc) ?_
              have h := sp_iconst (n := 1) (v := 1) (by decide +kernel) (by decide +kernel) h
              have h := sp_goto (mi := 246) (pc := 43) (off := 27) (t := 70) (by decide +kernel) (by decide) rfl h
              exact sp_iret (by decide +kernel) h
        · refine ite_t (Classical.not_not.mp hc) ?_
          have h := sp_iconst (n := 0) (v := 0) (by decide +kernel) (by decide +kernel) h
          exact sp_iret (by decide +kernel) h