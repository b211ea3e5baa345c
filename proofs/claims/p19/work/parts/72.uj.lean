section
/-! ===== what pieces of methods leave (printed by us.py) ===== -/
set_option maxRecDepth 20000 in
set_option maxHeartbeats 2000000 in
theorem U133_0 {X : pm_X} {k : Nat} {w w' : pm_W} {r : Option Value} {q1 : Nat} {p2 : Int32} {p3 : Int32} (hS : SK w) (h : PS X (k + 1) 133 0 [.ref 55, .ref q1, .int p2, .int p3] [] w r w') : cpI w (gR w (gR w q1 0) 4) 65 0 0 9 ∧ (∀ w1 : pm_W, w1 = cpS w (gR w (gR w q1 0) 4) 65 0 0 9 → (∃ (r2 : Option Value) (w3 : pm_W), PS X k 134 0 [.ref 55, .ref q1, .int p2, .int p3] [] w1 r2 w3 ∧ (∀ x4 : Int32, r2 = some (.int x4) → SK w3 → (r = some (.int x4) ∧ w' = w3)))) := by
  have h := sp_one (i := .aload_n 1) (by decide +kernel) rfl h
  have h := sp_getR (jj := 28) (ci := 7) (n := 0) (by decide +kernel) (by decide +kernel) (by decide +kernel) hS h
  have h := sp_getR (jj := 32) (ci := 9) (n := 4) (by decide +kernel) (by decide +kernel) (by decide +kernel) hS h
  have h := sp_iconst (n := 0) (v := 0) (by decide +kernel) (by decide +kernel) h
  have h := sp_onk (i := .aload_n 0) (by decide +kernel) rfl h
  have h := sp_getK (jj := 18) (ci := 6) (n := 3) (b := 65) (by decide +kernel) (by decide +kernel) (by decide +kernel) (by decide +kernel) (by decide) hS h
  have h := sp_iconst (n := 0) (v := 0) (by decide +kernel) (by decide +kernel) h
  have h := sp_bipush (n := 9) (v := 9) (by decide +kernel) (by decide +kernel) h
  obtain ⟨hi, h⟩ := sp_copy (j := 35) (by decide +kernel) (by decide +kernel) (by decide +kernel) h
  refine ⟨hi, ?_⟩
  intro w1 ew1
  rw [← ew1] at h
  have hSw1 : SK w1 := by rw [ew1]; exact SK_cpS hi hS
  have h := sp_onk (i := .aload_n 0) (by decide +kernel) rfl h
  have h := sp_onk (i := .aload_n 1) (by decide +kernel) rfl h
  have h := sp_onk (i := .iload_n 2) (by decide +kernel) rfl h
  have h := sp_onk (i := .iload_n 3) (by decide +kernel) rfl h
  obtain ⟨r2, w3, hc, h⟩ := sp_callV (jj := 41) (mj := 134) (n := 3) (v := .ref 55) (args := [.int p3, .int p2, .ref q1]) (ls' := [.ref 55, .ref q1, .int p2, .int p3]) (by decide +kernel) (by decide +kernel) rfl rfl rfl h
  refine ⟨r2, w3, hc, fun x4 er hSw3 => ?_⟩
  subst er
  have h : PS X k 133 25 [.ref 55, .ref q1, .int p2, .int p3] [.int x4] w3 r w' := h
  exact sp_iret (by decide +kernel) h
set_option maxRecDepth 20000 in
set_option maxHeartbeats 2000000 in
theorem U134_0 {X : pm_X} {k : Nat} {w w' : pm_W} {r : Option Value} {q1 : Nat} {p2 : Int32} {p3 : Int32} (hS : SK w) (h : PS X (k + 1) 134 0 [.ref 55, .ref q1, .int p2, .int p3] [] w r w') : ∀ w1 : pm_W, w1 = sR w 55 0 q1 → (∀ w2 : pm_W, w2 = sI w1 55 1 p3 → (∃ (r3 : Option Value) (w4 : pm_W), PS X k 65 0 [.ref (gR w2 q1 0), .int p2, .int 2] [] w2 r3 w4 ∧ (∀ x5 : Int32, r3 = some (.int x5) → SK w4 → (∀ w6 : pm_W, w6 = sI w4 55 2 x5 → (∃ (r7 : Option Value) (w8 : pm_W), PS X k 65 0 [.ref (gR w6 q1 0), .int p2, .int 0] [] w6 r7 w8 ∧ (∀ x9 : Int32, r7 = some (.int x9) → SK w8 → (aI w8 66 0 ∧ (∀ w10 : pm_W, w10 = aS w8 66 0 x9 → (∃ (r11 : Option Value) (w12 : pm_W), PS X k 65 0 [.ref (gR w10 q1 0), .int p2, .int 1] [] w10 r11 w12 ∧ (∀ x13 : Int32, r11 = some (.int x13) → SK w12 → (aI w12 66 1 ∧ (∀ w14 : pm_W, w14 = aS w12 66 1 x13 → (∀ w15 : pm_W, w15 = sI w14 55 6 0 → (aI w15 66 0 ∧ (aI w15 66 1 ∧ (∃ (r16 : Option Value) (w17 : pm_W), PS X k 77 0 [.ref q1, .int (aG w15 66 0), .int (aG w15 66 1)] [] w15 r16 w17 ∧ (∀ x18 : Int32, r16 = some (.int x18) → SK w17 → (if x18 < (gI w17 55 2) then (if (gI w17 55 6) ≤ 0 then (r = some (.int 0) ∧ w' = w17) else (r = some (.int 1) ∧ w' = w17)) else (aI w17 66 0 ∧ (aI w17 66 1 ∧ (∃ (r19 : Option Value) (w20 : pm_W), PS X k 135 0 [.ref 55, .int 2, .int ((1 <<< (aG w17 66 0 &&& 31)) ||| (1 <<< (aG w17 66 1 &&& 31))), pm_dead, pm_dead] [] w17 r19 w20 ∧ (r19 = none → SK w20 → (if (gI w20 55 6) ≤ 0 then (r = some (.int 0) ∧ w' = w20) else (r = some (.int 1) ∧ w' = w20)))))))))))))))))))))))) := by
  have h := sp_one (i := .aload_n 0) (by decide +kernel) rfl h
  have h := sp_onk (i := .aload_n 1) (by decide +kernel) rfl h
  have h := sp_putR (jj := 12) (ci := 6) (n := 0) (ty := .object "RingVillage$State") (by decide +kernel) (by decide +kernel) (by decide +kernel) rfl hS h
  intro w1 ew1
  rw [← ew1] at h
  have hSw1 : SK w1 := by rw [ew1]; exact SK_sR hS
  have h := sp_onk (i := .aload_n 0) (by decide +kernel) rfl h
  have h := sp_onk (i := .iload_n 3) (by decide +kernel) rfl h
  have h := sp_putI (jj := 45) (ci := 6) (n := 1) (ty := .int) (by decide +kernel) (by decide +kernel) (by decide +kernel) hSw1 h
  intro w2 ew2
  rw [← ew2] at h
  have hSw2 : SK w2 := by rw [ew2]; exact SK_sI hSw1
  have h := sp_onk (i := .aload_n 0) (by decide +kernel) rfl h
  have h := sp_onk (i := .aload_n 1) (by decide +kernel) rfl h
  have h := sp_getR (jj := 28) (ci := 7) (n := 0) (by decide +kernel) (by decide +kernel) (by decide +kernel) hSw2 h
  have h := sp_onk (i := .iload_n 2) (by decide +kernel) rfl h
  have h := sp_iconst (n := 2) (v := 2) (by decide +kernel) (by decide +kernel) h
  obtain ⟨r3, w4, hc, h⟩ := sp_callV (jj := 49) (mj := 65) (n := 2) (v := .ref (gR w2 q1 0)) (args := [.int 2, .int p2]) (ls' := [.ref (gR w2 q1 0), .int p2, .int 2]) (by decide +kernel) (by decide +kernel) rfl rfl rfl h
  refine ⟨r3, w4, hc, fun x5 er hSw4 => ?_⟩
  subst er
  have h : PS X k 134 20 [.ref 55, .ref q1, .int p2, .int p3] [.int x5, .ref 55] w4 r w' := h
  have h := sp_putI (jj := 53) (ci := 6) (n := 2) (ty := .int) (by decide +kernel) (by decide +kernel) (by decide +kernel) hSw4 h
  intro w6 ew6
  rw [← ew6] at h
  have hSw6 : SK w6 := by rw [ew6]; exact SK_sI hSw4
  have h := sp_onk (i := .aload_n 0) (by decide +kernel) rfl h
  have h := sp_getK (jj := 22) (ci := 6) (n := 4) (b := 66) (by decide +kernel) (by decide +kernel) (by decide +kernel) (by decide +kernel) (by decide) hSw6 h
  have h := sp_iconst (n := 0) (v := 0) (by decide +kernel) (by decide +kernel) h
  have h := sp_onk (i := .aload_n 1) (by decide +kernel) rfl h
  have h := sp_getR (jj := 28) (ci := 7) (n := 0) (by decide +kernel) (by decide +kernel) (by decide +kernel) hSw6 h
  have h := sp_onk (i := .iload_n 2) (by decide +kernel) rfl h
  have h := sp_iconst (n := 0) (v := 0) (by decide +kernel) (by decide +kernel) h
  obtain ⟨r7, w8, hc, h⟩ := sp_callV (jj := 49) (mj := 65) (n := 2) (v := .ref (gR w6 q1 0)) (args := [.int 0, .int p2]) (ls' := [.ref (gR w6 q1 0), .int p2, .int 0]) (by decide +kernel) (by decide +kernel) rfl rfl rfl h
  refine ⟨r7, w8, hc, fun x9 er hSw8 => ?_⟩
  subst er
  have h : PS X k 134 37 [.ref 55, .ref q1, .int p2, .int p3] [.int x9, .int 0, .ref 66] w8 r w' := h
  obtain ⟨hi, h⟩ := sp_iast (by decide +kernel) h
  refine ⟨hi, ?_⟩
  intro w10 ew10
  rw [← ew10] at h
  have hSw10 : SK w10 := by rw [ew10]; exact SK_aS hSw8
  have h := sp_onk (i := .aload_n 0) (by decide +kernel) rfl h
  have h := sp_getK (jj := 22) (ci := 6) (n := 4) (b := 66) (by decide +kernel) (by decide +kernel) (by decide +kernel) (by decide +kernel) (by decide) hSw10 h
  have h := sp_iconst (n := 1) (v := 1) (by decide +kernel) (by decide +kernel) h
  have h := sp_onk (i := .aload_n 1) (by decide +kernel) rfl h
  have h := sp_getR (jj := 28) (ci := 7) (n := 0) (by decide +kernel) (by decide +kernel) (by decide +kernel) hSw10 h
  have h := sp_onk (i := .iload_n 2) (by decide +kernel) rfl h
  have h := sp_iconst (n := 1) (v := 1) (by decide +kernel) (by decide +kernel) h
  obtain ⟨r11, w12, hc, h⟩ := sp_callV (jj := 49) (mj := 65) (n := 2) (v := .ref (gR w10 q1 0)) (args := [.int 1, .int p2]) (ls' := [.ref (gR w10 q1 0), .int p2, .int 1]) (by decide +kernel) (by decide +kernel) rfl rfl rfl h
  refine ⟨r11, w12, hc, fun x13 er hSw12 => ?_⟩
  subst er
  have h : PS X k 134 52 [.ref 55, .ref q1, .int p2, .int p3] [.int x13, .int 1, .ref 66] w12 r w' := h
  obtain ⟨hi, h⟩ := sp_iast (by decide +kernel) h
  refine ⟨hi, ?_⟩
  intro w14 ew14
  rw [← ew14] at h
  have hSw14 : SK w14 := by rw [ew14]; exact SK_aS hSw12
  have h := sp_onk (i := .aload_n 0) (by decide +kernel) rfl h
  have h := sp_iconst (n := 0) (v := 0) (by decide +kernel) (by decide +kernel) h
  have h := sp_putI (jj := 56) (ci := 6) (n := 6) (ty := .int) (by decide +kernel) (by decide +kernel) (by decide +kernel) hSw14 h
  intro w15 ew15
  rw [← ew15] at h
  have hSw15 : SK w15 := by rw [ew15]; exact SK_sI hSw14
  have h := sp_onk (i := .aload_n 1) (by decide +kernel) rfl h
  have h := sp_onk (i := .aload_n 0) (by decide +kernel) rfl h
  have h := sp_getK (jj := 22) (ci := 6) (n := 4) (b := 66) (by decide +kernel) (by decide +kernel) (by decide +kernel) (by decide +kernel) (by decide) hSw15 h
  have h := sp_iconst (n := 0) (v := 0) (by decide +kernel) (by decide +kernel) h
  obtain ⟨hi, h⟩ := sp_iald (by decide +kernel) h
  refine ⟨hi, ?_⟩
  have h := sp_onk (i := .aload_n 0) (by decide +kernel) rfl h
  have h := sp_getK (jj := 22) (ci := 6) (n := 4) (b := 66) (by decide +kernel) (by decide +kernel) (by decide +kernel) (by decide +kernel) (by decide) hSw15 h
  have h := sp_iconst (n := 1) (v := 1) (by decide +kernel) (by decide +kernel) h
  obtain ⟨hi, h⟩ := sp_iald (by decide +kernel) h
  refine ⟨hi, ?_⟩
  obtain ⟨r16, w17, hc, h⟩ := sp_callV (jj := 59) (mj := 77) (n := 2) (v := .ref q1) (args := [.int (aG w15 66 1), .int (aG w15 66 0)]) (ls' := [.ref q1, .int (aG w15 66 0), .int (aG w15 66 1)]) (by decide +kernel) (by decide +kernel) rfl rfl rfl h
  refine ⟨r16, w17, hc, fun x18 er hSw17 => ?_⟩
  subst er
  have h : PS X k 134 74 [.ref 55, .ref q1, .int p2, .int p3] [.int x18] w17 r w' := h
  have h := sp_onk (i := .aload_n 0) (by decide +kernel) rfl h
  have h := sp_getI (jj := 53) (ci := 6) (n := 2) (by decide +kernel) (by decide +kernel) (by decide +kernel) hSw17 h
  rcases sp_icmp_lt (mi := 134) (pc := 78) (off := 25) (t := 103) (by decide +kernel) (by decide) rfl h with ⟨hc, h⟩ | ⟨hc, h⟩
  · refine ite_t hc ?_
    have h := sp_onk (i := .aload_n 0) (by decide +kernel) rfl h
    have h := sp_getI (jj := 56) (ci := 6) (n := 6) (by decide +kernel) (by decide +kernel) (by decide +kernel) hSw17 h
    rcases sp_if_le (mi := 134) (pc := 107) (off := 7) (t := 114) (by decide +kernel) (by decide) rfl h with ⟨hc, h⟩ | ⟨hc, h⟩
    · refine ite_t hc ?_
      have h := sp_iconst (n := 0) (v := 0) (by decide +kernel) (by decide +kernel) h
      exact sp_iret (by decide +kernel) h
    · refine ite_f hc ?_
      have h := sp_iconst (n := 1) (v := 1) (by decide +kernel) (by decide +kernel) h
      have h := sp_goto (mi := 134) (pc := 111) (off := 4) (t := 115) (by decide +kernel) (by decide) rfl h
      exact sp_iret (by decide +kernel) h
  · refine ite_f hc ?_
    have h := sp_onk (i := .aload_n 0) (by decide +kernel) rfl h
    have h := sp_iconst (n := 2) (v := 2) (by decide +kernel) (by decide +kernel) h
    have h := sp_iconst (n := 1) (v := 1) (by decide +kernel) (by decide +kernel) h
    have h := sp_onk (i := .aload_n 0) (by decide +kernel) rfl h
    have h := sp_getK (jj := 22) (ci := 6) (n := 4) (b := 66) (by decide +kernel) (by decide +kernel) (by decide +kernel) (by decide +kernel) (by decide) hSw17 h
    have h := sp_iconst (n := 0) (v := 0) (by decide +kernel) (by decide +kernel) h
    obtain ⟨hi, h⟩ := sp_iald (by decide +kernel) h
    refine ⟨hi, ?_⟩
    have h := sp_onk (i := .ishl) (by decide +kernel) rfl h
    have h := sp_iconst (n := 1) (v := 1) (by decide +kernel) (by decide +kernel) h
    have h := sp_onk (i := .aload_n 0) (by decide +kernel) rfl h
    have h := sp_getK (jj := 22) (ci := 6) (n := 4) (b := 66) (by decide +kernel) (by decide +kernel) (by decide +kernel) (by decide +kernel) (by decide) hSw17 h
    have h := sp_iconst (n := 1) (v := 1) (by decide +kernel) (by decide +kernel) h
    obtain ⟨hi, h⟩ := sp_iald (by decide +kernel) h
    refine ⟨hi, ?_⟩
    have h := sp_onk (i := .ishl) (by decide +kernel) rfl h
    have h := sp_onk (i := .ior) (by decide +kernel) rfl h
    obtain ⟨r19, w20, hc, h⟩ := sp_callS (jj := 62) (mj := 135) (n := 3) (args := [.int ((1 <<< (aG w17 66 0 &&& 31)) ||| (1 <<< (aG w17 66 1 &&& 31))), .int 2, .ref 55]) (ls' := [.ref 55, .int 2, .int ((1 <<< (aG w17 66 0 &&& 31)) ||| (1 <<< (aG w17 66 1 &&& 31))), pm_dead, pm_dead]) (by decide +kernel) (by decide +kernel) (by decide +kernel) rfl rfl rfl h
    refine ⟨r19, w20, hc, fun er hSw20 => ?_⟩
    subst er
    have h : PS X k 134 103 [.ref 55, .ref q1, .int p2, .int p3] [] w20 r w' := h
    have h := sp_onk (i := .aload_n 0) (by decide +kernel) rfl h
    have h := sp_getI (jj := 56) (ci := 6) (n := 6) (by decide +kernel) (by decide +kernel) (by decide +kernel) hSw20 h
    rcases sp_if_le (mi := 134) (pc := 107) (off := 7) (t := 114) (by decide +kernel) (by decide) rfl h with ⟨hc, h⟩ | ⟨hc, h⟩
    · refine ite_t hc ?_
      have h := sp_iconst (n := 0) (v := 0) (by decide +kernel) (by decide +kernel) h
      exact sp_iret (by decide +kernel) h
    · refine ite_f hc ?_
      have h := sp_iconst (n := 1) (v := 1) (by decide +kernel) (by decide +kernel) h
      have h := sp_goto (mi := 134) (pc := 111) (off := 4) (t := 115) (by decide +kernel) (by decide) rfl h
      exact sp_iret (by decide +kernel) h
set_option maxRecDepth 20000 in
set_option maxHeartbeats 2000000 in
theorem U135_0 {X : pm_X} {k : Nat} {w w' : pm_W} {r : Option Value} {p2 : Int32} {p3 : Int32} (hS : SK w) (h : PS X (k + 1) 135 0 [.ref 55, .int p2, .int p3, pm_dead, pm_dead] [] w r w') : aI w 66 (p2 - 1) ∧ (aI w 66 0 ∧ (∃ (r1 : Option Value) (w2 : pm_W), PS X k 77 0 [.ref (gR w 55 0), .int (aG w 66 (p2 - 1)), .int (aG w 66 0)] [] w r1 w2 ∧ (∀ x3 : Int32, r1 = some (.int x3) → SK w2 → (if x3 < (gI w2 55 2) then (if p2 < 6 then (PS X k 135 45 [.ref 55, .int p2, .int p3, .int (aG w 66 (p2 - 1)), .int 0] [] w2 r w') else (r = none ∧ w' = w2)) else (∃ (r4 : Option Value) (w5 : pm_W), PS X k 136 0 [.ref 55, .int p2, pm_dead, pm_dead, pm_dead, pm_dead] [] w2 r4 w5 ∧ (r4 = none → SK w5 → (if p2 < 6 then (PS X k 135 45 [.ref 55, .int p2, .int p3, .int (aG w 66 (p2 - 1)), .int 0] [] w5 r w') else (r = none ∧ w' = w5)))))))) := by
  have h := sp_one (i := .aload_n 0) (by decide +kernel) rfl h
  have h := sp_getK (jj := 22) (ci := 6) (n := 4) (b := 66) (by decide +kernel) (by decide +kernel) (by decide +kernel) (by decide +kernel) (by decide) hS h
  have h := sp_onk (i := .iload_n 1) (by decide +kernel) rfl h
  have h := sp_iconst (n := 1) (v := 1) (by decide +kernel) (by decide +kernel) h
  have h := sp_onk (i := .isub) (by decide +kernel) rfl h
  obtain ⟨hi, h⟩ := sp_iald (by decide +kernel) h
  refine ⟨hi, ?_⟩
  have h := sp_istore_n (j := 3) (ls' := [.ref 55, .int p2, .int p3, .int (aG w 66 (p2 - 1)), pm_dead]) (by decide +kernel) (Nat.le_of_ble_eq_true rfl) rfl h
  have h := sp_onk (i := .aload_n 0) (by decide +kernel) rfl h
  have h := sp_getR (jj := 12) (ci := 6) (n := 0) (by decide +kernel) (by decide +kernel) (by decide +kernel) hS h
  have h := sp_onk (i := .iload_n 3) (by decide +kernel) rfl h
  have h := sp_onk (i := .aload_n 0) (by decide +kernel) rfl h
  have h := sp_getK (jj := 22) (ci := 6) (n := 4) (b := 66) (by decide +kernel) (by decide +kernel) (by decide +kernel) (by decide +kernel) (by decide) hS h
  have h := sp_iconst (n := 0) (v := 0) (by decide +kernel) (by decide +kernel) h
  obtain ⟨hi, h⟩ := sp_iald (by decide +kernel) h
  refine ⟨hi, ?_⟩
  obtain ⟨r1, w2, hc, h⟩ := sp_callV (jj := 59) (mj := 77) (n := 2) (v := .ref (gR w 55 0)) (args := [.int (aG w 66 0), .int (aG w 66 (p2 - 1))]) (ls' := [.ref (gR w 55 0), .int (aG w 66 (p2 - 1)), .int (aG w 66 0)]) (by decide +kernel) (by decide +kernel) rfl rfl rfl h
  refine ⟨r1, w2, hc, fun x3 er hSw2 => ?_⟩
  subst er
  have h : PS X k 135 23 [.ref 55, .int p2, .int p3, .int (aG w 66 (p2 - 1)), pm_dead] [.int x3] w2 r w' := h
  have h := sp_onk (i := .aload_n 0) (by decide +kernel) rfl h
  have h := sp_getI (jj := 53) (ci := 6) (n := 2) (by decide +kernel) (by decide +kernel) (by decide +kernel) hSw2 h
  rcases sp_icmp_lt (mi := 135) (pc := 27) (off := 8) (t := 35) (by decide +kernel) (by decide) rfl h with ⟨hc, h⟩ | ⟨hc, h⟩
  · refine ite_t hc ?_
    have h := sp_onk (i := .iload_n 1) (by decide +kernel) rfl h
    have h := sp_bipush (n := 6) (v := 6) (by decide +kernel) (by decide +kernel) h
    rcases sp_icmp_lt (mi := 135) (pc := 38) (off := 4) (t := 42) (by decide +kernel) (by decide) rfl h with ⟨hc, h⟩ | ⟨hc, h⟩
    · refine ite_t hc ?_
      have h := sp_iconst (n := 0) (v := 0) (by decide +kernel) (by decide +kernel) h
      have h := sp_istore (j := 4) (ls' := [.ref 55, .int p2, .int p3, .int (aG w 66 (p2 - 1)), .int 0]) (by decide +kernel) (Nat.le_of_ble_eq_true rfl) rfl h
      exact h
    · refine ite_f hc ?_
      exact sp_vret (by decide +kernel) h
  · refine ite_f hc ?_
    have h := sp_onk (i := .aload_n 0) (by decide +kernel) rfl h
    have h := sp_onk (i := .iload_n 1) (by decide +kernel) rfl h
    obtain ⟨r4, w5, hc, h⟩ := sp_callV (jj := 66) (mj := 136) (n := 1) (v := .ref 55) (args := [.int p2]) (ls' := [.ref 55, .int p2, pm_dead, pm_dead, pm_dead, pm_dead]) (by decide +kernel) (by decide +kernel) rfl rfl rfl h
    refine ⟨r4, w5, hc, fun er hSw5 => ?_⟩
    subst er
    have h : PS X k 135 35 [.ref 55, .int p2, .int p3, .int (aG w 66 (p2 - 1)), pm_dead] [] w5 r w' := h
    have h := sp_onk (i := .iload_n 1) (by decide +kernel) rfl h
    have h := sp_bipush (n := 6) (v := 6) (by decide +kernel) (by decide +kernel) h
    rcases sp_icmp_lt (mi := 135) (pc := 38) (off := 4) (t := 42) (by decide +kernel) (by decide) rfl h with ⟨hc, h⟩ | ⟨hc, h⟩
    · refine ite_t hc ?_
      have h := sp_iconst (n := 0) (v := 0) (by decide +kernel) (by decide +kernel) h
      have h := sp_istore (j := 4) (ls' := [.ref 55, .int p2, .int p3, .int (aG w 66 (p2 - 1)), .int 0]) (by decide +kernel) (Nat.le_of_ble_eq_true rfl) rfl h
      exact h
    · refine ite_f hc ?_
      exact sp_vret (by decide +kernel) h
set_option maxRecDepth 20000 in
set_option maxHeartbeats 2000000 in
theorem U135_45 {X : pm_X} {k : Nat} {w w' : pm_W} {r : Option Value} {i1 : Int32} {i2 : Int32} {i3 : Int32} {i4 : Int32} (hS : SK w) (h : PS X (k + 1) 135 45 [.ref 55, .int i1, .int i2, .int i3, .int i4] [] w r w') : if (gI w (gR w (gR w 55 0) 0) 0) ≤ i4 then (r = none ∧ w' = w) else (∃ (r1 : Option Value) (w2 : pm_W), PS X k 89 0 [.int i2, .int i4] [] w r1 w2 ∧ (∀ x3 : Int32, r1 = some (.int x3) → SK w2 → (if x3 = 0 then (∃ (r4 : Option Value) (w5 : pm_W), PS X k 77 0 [.ref (gR w2 55 0), .int i3, .int i4] [] w2 r4 w5 ∧ (∀ x6 : Int32, r4 = some (.int x6) → SK w5 → (if x6 < (gI w5 55 2) then (PS X k 135 45 [.ref 55, .int i1, .int i2, .int i3, .int (i4 + 1)] [] w5 r w') else (aI w5 66 i1 ∧ (∀ w7 : pm_W, w7 = aS w5 66 i1 i4 → (∃ (r8 : Option Value) (w9 : pm_W), PS X k 135 0 [.ref 55, .int (i1 + 1), .int (i2 ||| (1 <<< (i4 &&& 31))), pm_dead, pm_dead] [] w7 r8 w9 ∧ (r8 = none → SK w9 → (PS X k 135 45 [.ref 55, .int i1, .int i2, .int i3, .int (i4 + 1)] [] w9 r w')))))))) else (PS X k 135 45 [.ref 55, .int i1, .int i2, .int i3, .int (i4 + 1)] [] w2 r w')))) := by
  have h := sp_one (i := .iload 4) (by decide +kernel) rfl h
  have h := sp_onk (i := .aload_n 0) (by decide +kernel) rfl h
  have h := sp_getR (jj := 12) (ci := 6) (n := 0) (by decide +kernel) (by decide +kernel) (by decide +kernel) hS h
  have h := sp_getR (jj := 28) (ci := 7) (n := 0) (by decide +kernel) (by decide +kernel) (by decide +kernel) hS h
  have h := sp_getI (jj := 70) (ci := 9) (n := 0) (by decide +kernel) (by decide +kernel) (by decide +kernel) hS h
  rcases sp_icmp_ge (mi := 135) (pc := 57) (off := 56) (t := 113) (by decide +kernel) (by decide) rfl h with ⟨hc, h⟩ | ⟨hc, h⟩
  · refine ite_t hc ?_
    exact sp_vret (by decide +kernel) h
  · refine ite_f hc ?_
    have h := sp_onk (i := .iload_n 2) (by decide +kernel) rfl h
    have h := sp_onk (i := .iload 4) (by decide +kernel) rfl h
    obtain ⟨r1, w2, hc, h⟩ := sp_callS (jj := 73) (mj := 89) (n := 2) (args := [.int i4, .int i2]) (ls' := [.int i2, .int i4]) (by decide +kernel) (by decide +kernel) (by decide +kernel) rfl rfl rfl h
    refine ⟨r1, w2, hc, fun x3 er hSw2 => ?_⟩
    subst er
    have h : PS X k 135 66 [.ref 55, .int i1, .int i2, .int i3, .int i4] [.int x3] w2 r w' := h
    rcases sp_if_ne (mi := 135) (pc := 66) (off := 41) (t := 107) (by decide +kernel) (by decide) rfl h with ⟨hc, h⟩ | ⟨hc, h⟩
    · refine ite_f hc ?_
      have h := sp_iinc (j := 4) (n := 1) (v := 1) (ls' := [.ref 55, .int i1, .int i2, .int i3, .int (i4 + 1)]) (by decide +kernel) rfl (by decide +kernel) rfl h
      have h := sp_goto (mi := 135) (pc := 110) (off := (-65)) (t := 45) (by decide +kernel) (by decide) rfl h
      exact h
    · refine ite_t (Classical.not_not.mp hc) ?_
      have h := sp_onk (i := .aload_n 0) (by decide +kernel) rfl h
      have h := sp_getR (jj := 12) (ci := 6) (n := 0) (by decide +kernel) (by decide +kernel) (by decide +kernel) hSw2 h
      have h := sp_onk (i := .iload_n 3) (by decide +kernel) rfl h
      have h := sp_onk (i := .iload 4) (by decide +kernel) rfl h
      obtain ⟨r4, w5, hc, h⟩ := sp_callV (jj := 59) (mj := 77) (n := 2) (v := .ref (gR w2 55 0)) (args := [.int i4, .int i3]) (ls' := [.ref (gR w2 55 0), .int i3, .int i4]) (by decide +kernel) (by decide +kernel) rfl rfl rfl h
      refine ⟨r4, w5, hc, fun x6 er hSw5 => ?_⟩
      subst er
      have h : PS X k 135 79 [.ref 55, .int i1, .int i2, .int i3, .int i4] [.int x6] w5 r w' := h
      have h := sp_onk (i := .aload_n 0) (by decide +kernel) rfl h
      have h := sp_getI (jj := 53) (ci := 6) (n := 2) (by decide +kernel) (by decide +kernel) (by decide +kernel) hSw5 h
      rcases sp_icmp_lt (mi := 135) (pc := 83) (off := 24) (t := 107) (by decide +kernel) (by decide) rfl h with ⟨hc, h⟩ | ⟨hc, h⟩
      · refine ite_t hc ?_
        have h := sp_iinc (j := 4) (n := 1) (v := 1) (ls' := [.ref 55, .int i1, .int i2, .int i3, .int (i4 + 1)]) (by decide +kernel) rfl (by decide +kernel) rfl h
        have h := sp_goto (mi := 135) (pc := 110) (off := (-65)) (t := 45) (by decide +kernel) (by decide) rfl h
        exact h
      · refine ite_f hc ?_
        have h := sp_onk (i := .aload_n 0) (by decide +kernel) rfl h
        have h := sp_getK (jj := 22) (ci := 6) (n := 4) (b := 66) (by decide +kernel) (by decide +kernel) (by decide +kernel) (by decide +kernel) (by decide) hSw5 h
        have h := sp_onk (i := .iload_n 1) (by decide +kernel) rfl h
        have h := sp_onk (i := .iload 4) (by decide +kernel) rfl h
        obtain ⟨hi, h⟩ := sp_iast (by decide +kernel) h
        refine ⟨hi, ?_⟩
        intro w7 ew7
        rw [← ew7] at h
        have hSw7 : SK w7 := by rw [ew7]; exact SK_aS hSw5
        have h := sp_onk (i := .aload_n 0) (by decide +kernel) rfl h
        have h := sp_onk (i := .iload_n 1) (by decide +kernel) rfl h
        have h := sp_iconst (n := 1) (v := 1) (by decide +kernel) (by decide +kernel) h
        have h := sp_onk (i := .iadd) (by decide +kernel) rfl h
        have h := sp_onk (i := .iload_n 2) (by decide +kernel) rfl h
        have h := sp_iconst (n := 1) (v := 1) (by decide +kernel) (by decide +kernel) h
        have h := sp_onk (i := .iload 4) (by decide +kernel) rfl h
        have h := sp_onk (i := .ishl) (by decide +kernel) rfl h
        have h := sp_onk (i := .ior) (by decide +kernel) rfl h
        obtain ⟨r8, w9, hc, h⟩ := sp_callS (jj := 62) (mj := 135) (n := 3) (args := [.int (i2 ||| (1 <<< (i4 &&& 31))), .int (i1 + 1), .ref 55]) (ls' := [.ref 55, .int (i1 + 1), .int (i2 ||| (1 <<< (i4 &&& 31))), pm_dead, pm_dead]) (by decide +kernel) (by decide +kernel) (by decide +kernel) rfl rfl rfl h
        refine ⟨r8, w9, hc, fun er hSw9 => ?_⟩
        subst er
        have h : PS X k 135 107 [.ref 55, .int i1, .int i2, .int i3, .int i4] [] w9 r w' := h
        have h := sp_iinc (j := 4) (n := 1) (v := 1) (ls' := [.ref 55, .int i1, .int i2, .int i3, .int (i4 + 1)]) (by decide +kernel) rfl (by decide +kernel) rfl h
        have h := sp_goto (mi := 135) (pc := 110) (off := (-65)) (t := 45) (by decide +kernel) (by decide) rfl h
        exact h
set_option maxRecDepth 20000 in
set_option maxHeartbeats 2000000 in
theorem U136_0 {X : pm_X} {k : Nat} {w w' : pm_W} {r : Option Value} {p1 : Int32} (hS : SK w) (h : PS X (k + 1) 136 0 [.ref 55, .int p1, pm_dead, pm_dead, pm_dead, pm_dead] [] w r w') : PS X k 136 7 [.ref 55, .int p1, .int 0, .long 1, pm_dead, .int 0] [] w r w' := by
  have h := sp_iconst1 (n := 0) (v := 0) (by decide +kernel) (by decide +kernel) h
  have h := sp_istore_n (j := 2) (ls' := [.ref 55, .int p1, .int 0, pm_dead, pm_dead, pm_dead]) (by decide +kernel) (Nat.le_of_ble_eq_true rfl) rfl h
  have h := sp_lconst (n := 1) (v := 1) (by decide +kernel) (by decide +kernel) h
  have h := sp_lstore_n (j := 3) (ls' := [.ref 55, .int p1, .int 0, .long 1, pm_dead, pm_dead]) (by decide +kernel) (Nat.le_of_ble_eq_true rfl) rfl h
  have h := sp_iconst (n := 0) (v := 0) (by decide +kernel) (by decide +kernel) h
  have h := sp_istore (j := 5) (ls' := [.ref 55, .int p1, .int 0, .long 1, pm_dead, .int 0]) (by decide +kernel) (Nat.le_of_ble_eq_true rfl) rfl h
  exact h
set_option maxRecDepth 20000 in
set_option maxHeartbeats 2000000 in
theorem U136_7 {X : pm_X} {k : Nat} {w w' : pm_W} {r : Option Value} {i1 : Int32} {i2 : Int32} {l3 : Int64} {i5 : Int32} (hS : SK w) (h : PS X (k + 1) 136 7 [.ref 55, .int i1, .int i2, .long l3, pm_dead, .int i5] [] w r w') : if i1 ≤ i5 then (if (gI w 55 6) = 0 then (∀ w1 : pm_W, w1 = sI w 55 6 i1 → (∀ w2 : pm_W, w2 = sI w1 55 7 i2 → (∀ w3 : pm_W, w3 = sL w2 55 8 l3 → (cpI w3 66 67 0 0 i1 ∧ (∀ w4 : pm_W, w4 = cpS w3 66 67 0 0 i1 → (r = none ∧ w' = w4)))))) else (∃ (r5 : Option Value) (w6 : pm_W), PS X k 137 0 [.ref 55, .int i1, .int i2, .long l3, pm_dead, pm_dead, pm_dead, pm_dead, pm_dead] [] w r5 w6 ∧ (∀ x7 : Int32, r5 = some (.int x7) → SK w6 → (if x7 = 0 then (r = none ∧ w' = w6) else (∀ w8 : pm_W, w8 = sI w6 55 6 i1 → (∀ w9 : pm_W, w9 = sI w8 55 7 i2 → (∀ w10 : pm_W, w10 = sL w9 55 8 l3 → (cpI w10 66 67 0 0 i1 ∧ (∀ w11 : pm_W, w11 = cpS w10 66 67 0 0 i1 → (r = none ∧ w' = w11)))))))))) else (if 2 ≤ i5 then (aI w 66 i5 ∧ (aI w 65 (aG w 66 i5) ∧ (aI w 66 i5 ∧ (aI w (gR w (gR w (gR w 55 0) 0) 5) (aG w 66 i5) ∧ (PS X k 136 7 [.ref 55, .int i1, .int (i2 + (aG w 65 (aG w 66 i5))), .long (l3 * ((100 - (aG w (gR w (gR w (gR w 55 0) 0) 5) (aG w 66 i5))).toInt64)), pm_dead, .int (i5 + 1)] [] w r w'))))) else (aI w 66 i5 ∧ (aI w (gR w (gR w (gR w 55 0) 0) 5) (aG w 66 i5) ∧ (PS X k 136 7 [.ref 55, .int i1, .int (i2 + 0), .long (l3 * ((100 - (aG w (gR w (gR w (gR w 55 0) 0) 5) (aG w 66 i5))).toInt64)), pm_dead, .int (i5 + 1)] [] w r w')))) := by
  have h := sp_one (i := .iload 5) (by decide +kernel) rfl h
  have h := sp_onk (i := .iload_n 1) (by decide +kernel) rfl h
  rcases sp_icmp_ge (mi := 136) (pc := 10) (off := 59) (t := 69) (by decide +kernel) (by decide) rfl h with ⟨hc, h⟩ | ⟨hc, h⟩
  · refine ite_t hc ?_
    have h := sp_onk (i := .aload_n 0) (by decide +kernel) rfl h
    have h := sp_getI (jj := 56) (ci := 6) (n := 6) (by decide +kernel) (by decide +kernel) (by decide +kernel) hS h
    rcases sp_if_eq (mi := 136) (pc := 73) (off := 13) (t := 86) (by decide +kernel) (by decide) rfl h with ⟨hc, h⟩ | ⟨hc, h⟩
    · refine ite_t hc ?_
      have h := sp_onk (i := .aload_n 0) (by decide +kernel) rfl h
      have h := sp_onk (i := .iload_n 1) (by decide +kernel) rfl h
      have h := sp_putI (jj := 56) (ci := 6) (n := 6) (ty := .int) (by decide +kernel) (by decide +kernel) (by decide +kernel) hS h
      intro w1 ew1
      rw [← ew1] at h
      have hSw1 : SK w1 := by rw [ew1]; exact SK_sI hS
      have h := sp_onk (i := .aload_n 0) (by decide +kernel) rfl h
      have h := sp_onk (i := .iload_n 2) (by decide +kernel) rfl h
      have h := sp_putI (jj := 84) (ci := 6) (n := 7) (ty := .int) (by decide +kernel) (by decide +kernel) (by decide +kernel) hSw1 h
      intro w2 ew2
      rw [← ew2] at h
      have hSw2 : SK w2 := by rw [ew2]; exact SK_sI hSw1
      have h := sp_onk (i := .aload_n 0) (by decide +kernel) rfl h
      have h := sp_onk (i := .lload_n 3) (by decide +kernel) rfl h
      have h := sp_putL (jj := 87) (ci := 6) (n := 8) (ty := .long) (by decide +kernel) (by decide +kernel) (by decide +kernel) hSw2 h
      intro w3 ew3
      rw [← ew3] at h
      have hSw3 : SK w3 := by rw [ew3]; exact SK_sL hSw2
      have h := sp_onk (i := .aload_n 0) (by decide +kernel) rfl h
      have h := sp_getK (jj := 22) (ci := 6) (n := 4) (b := 66) (by decide +kernel) (by decide +kernel) (by decide +kernel) (by decide +kernel) (by decide) hSw3 h
      have h := sp_iconst (n := 0) (v := 0) (by decide +kernel) (by decide +kernel) h
      have h := sp_onk (i := .aload_n 0) (by decide +kernel) rfl h
      have h := sp_getK (jj := 25) (ci := 6) (n := 5) (b := 67) (by decide +kernel) (by decide +kernel) (by decide +kernel) (by decide +kernel) (by decide) hSw3 h
      have h := sp_iconst (n := 0) (v := 0) (by decide +kernel) (by decide +kernel) h
      have h := sp_onk (i := .iload_n 1) (by decide +kernel) rfl h
      obtain ⟨hi, h⟩ := sp_copy (j := 35) (by decide +kernel) (by decide +kernel) (by decide +kernel) h
      refine ⟨hi, ?_⟩
      intro w4 ew4
      rw [← ew4] at h
      have hSw4 : SK w4 := by rw [ew4]; exact SK_cpS hi hSw3
      exact sp_vret (by decide +kernel) h
    · refine ite_f hc ?_
      have h := sp_onk (i := .aload_n 0) (by decide +kernel) rfl h
      have h := sp_onk (i := .iload_n 1) (by decide +kernel) rfl h
      have h := sp_onk (i := .iload_n 2) (by decide +kernel) rfl h
      have h := sp_onk (i := .lload_n 3) (by decide +kernel) rfl h
      obtain ⟨r5, w6, hc, h⟩ := sp_callV (jj := 80) (mj := 137) (n := 3) (v := .ref 55) (args := [.long l3, .int i2, .int i1]) (ls' := [.ref 55, .int i1, .int i2, .long l3, pm_dead, pm_dead, pm_dead, pm_dead, pm_dead]) (by decide +kernel) (by decide +kernel) rfl rfl rfl h
      refine ⟨r5, w6, hc, fun x7 er hSw6 => ?_⟩
      subst er
      have h : PS X k 136 83 [.ref 55, .int i1, .int i2, .long l3, pm_dead, .int i5] [.int x7] w6 r w' := h
      rcases sp_if_eq (mi := 136) (pc := 83) (off := 32) (t := 115) (by decide +kernel) (by decide) rfl h with ⟨hc, h⟩ | ⟨hc, h⟩
      · refine ite_t hc ?_
        exact sp_vret (by decide +kernel) h
      · refine ite_f hc ?_
        have h := sp_onk (i := .aload_n 0) (by decide +kernel) rfl h
        have h := sp_onk (i := .iload_n 1) (by decide +kernel) rfl h
        have h := sp_putI (jj := 56) (ci := 6) (n := 6) (ty := .int) (by decide +kernel) (by decide +kernel) (by decide +kernel) hSw6 h
        intro w8 ew8
        rw [← ew8] at h
        have hSw8 : SK w8 := by rw [ew8]; exact SK_sI hSw6
        have h := sp_onk (i := .aload_n 0) (by decide +kernel) rfl h
        have h := sp_onk (i := .iload_n 2) (by decide +kernel) rfl h
        have h := sp_putI (jj := 84) (ci := 6) (n := 7) (ty := .int) (by decide +kernel) (by decide +kernel) (by decide +kernel) hSw8 h
        intro w9 ew9
        rw [← ew9] at h
        have hSw9 : SK w9 := by rw [ew9]; exact SK_sI hSw8
        have h := sp_onk (i := .aload_n 0) (by decide +kernel) rfl h
        have h := sp_onk (i := .lload_n 3) (by decide +kernel) rfl h
        have h := sp_putL (jj := 87) (ci := 6) (n := 8) (ty := .long) (by decide +kernel) (by decide +kernel) (by decide +kernel) hSw9 h
        intro w10 ew10
        rw [← ew10] at h
        have hSw10 : SK w10 := by rw [ew10]; exact SK_sL hSw9
        have h := sp_onk (i := .aload_n 0) (by decide +kernel) rfl h
        have h := sp_getK (jj := 22) (ci := 6) (n := 4) (b := 66) (by decide +kernel) (by decide +kernel) (by decide +kernel) (by decide +kernel) (by decide) hSw10 h
        have h := sp_iconst (n := 0) (v := 0) (by decide +kernel) (by decide +kernel) h
        have h := sp_onk (i := .aload_n 0) (by decide +kernel) rfl h
        have h := sp_getK (jj := 25) (ci := 6) (n := 5) (b := 67) (by decide +kernel) (by decide +kernel) (by decide +kernel) (by decide +kernel) (by decide) hSw10 h
        have h := sp_iconst (n := 0) (v := 0) (by decide +kernel) (by decide +kernel) h
        have h := sp_onk (i := .iload_n 1) (by decide +kernel) rfl h
        obtain ⟨hi, h⟩ := sp_copy (j := 35) (by decide +kernel) (by decide +kernel) (by decide +kernel) h
        refine ⟨hi, ?_⟩
        intro w11 ew11
        rw [← ew11] at h
        have hSw11 : SK w11 := by rw [ew11]; exact SK_cpS hi hSw10
        exact sp_vret (by decide +kernel) h
  · refine ite_f hc ?_
    have h := sp_onk (i := .iload_n 2) (by decide +kernel) rfl h
    have h := sp_onk (i := .iload 5) (by decide +kernel) rfl h
    have h := sp_iconst (n := 2) (v := 2) (by decide +kernel) (by decide +kernel) h
    rcases sp_icmp_ge (mi := 136) (pc := 17) (off := 7) (t := 24) (by decide +kernel) (by decide) rfl h with ⟨hc, h⟩ | ⟨hc, h⟩
    · refine ite_t hc ?_
      have h := sp_onk (i := .aload_n 0) (by decide +kernel) rfl h
      have h := sp_getK (jj := 18) (ci := 6) (n := 3) (b := 65) (by decide +kernel) (by decide +kernel) (by decide +kernel) (by decide +kernel) (by decide) hS h
      have h := sp_onk (i := .aload_n 0) (by decide +kernel) rfl h
      have h := sp_getK (jj := 22) (ci := 6) (n := 4) (b := 66) (by decide +kernel) (by decide +kernel) (by decide +kernel) (by decide +kernel) (by decide) hS h
      have h := sp_onk (i := .iload 5) (by decide +kernel) rfl h
      obtain ⟨hi, h⟩ := sp_iald (by decide +kernel) h
      refine ⟨hi, ?_⟩
      obtain ⟨hi, h⟩ := sp_iald (by decide +kernel) h
      refine ⟨hi, ?_⟩
      have h := sp_onk (i := .iadd) (by decide +kernel) rfl h
      have h := sp_istore_n (j := 2) (ls' := [.ref 55, .int i1, .int (i2 + (aG w 65 (aG w 66 i5))), .long l3, pm_dead, .int i5]) (by decide +kernel) (Nat.le_of_ble_eq_true rfl) rfl h
      have h := sp_onk (i := .lload_n 3) (by decide +kernel) rfl h
      have h := sp_bipush (n := 100) (v := 100) (by decide +kernel) (by decide +kernel) h
      have h := sp_onk (i := .aload_n 0) (by decide +kernel) rfl h
      have h := sp_getR (jj := 12) (ci := 6) (n := 0) (by decide +kernel) (by decide +kernel) (by decide +kernel) hS h
      have h := sp_getR (jj := 28) (ci := 7) (n := 0) (by decide +kernel) (by decide +kernel) (by decide +kernel) hS h
      have h := sp_getR (jj := 77) (ci := 9) (n := 5) (by decide +kernel) (by decide +kernel) (by decide +kernel) hS h
      have h := sp_onk (i := .aload_n 0) (by decide +kernel) rfl h
      have h := sp_getK (jj := 22) (ci := 6) (n := 4) (b := 66) (by decide +kernel) (by decide +kernel) (by decide +kernel) (by decide +kernel) (by decide) hS h
      have h := sp_onk (i := .iload 5) (by decide +kernel) rfl h
      obtain ⟨hi, h⟩ := sp_iald (by decide +kernel) h
      refine ⟨hi, ?_⟩
      obtain ⟨hi, h⟩ := sp_iald (by decide +kernel) h
      refine ⟨hi, ?_⟩
      have h := sp_onk (i := .isub) (by decide +kernel) rfl h
      have h := sp_onk (i := .i2l) (by decide +kernel) rfl h
      have h := sp_onk (i := .lmul) (by decide +kernel) rfl h
      have h := sp_lstore_n (j := 3) (ls' := [.ref 55, .int i1, .int (i2 + (aG w 65 (aG w 66 i5))), .long (l3 * ((100 - (aG w (gR w (gR w (gR w 55 0) 0) 5) (aG w 66 i5))).toInt64)), pm_dead, .int i5]) (by decide +kernel) (Nat.le_of_ble_eq_true rfl) rfl h
      have h := sp_iinc (j := 5) (n := 1) (v := 1) (ls' := [.ref 55, .int i1, .int (i2 + (aG w 65 (aG w 66 i5))), .long (l3 * ((100 - (aG w (gR w (gR w (gR w 55 0) 0) 5) (aG w 66 i5))).toInt64)), pm_dead, .int (i5 + 1)]) (by decide +kernel) rfl (by decide +kernel) rfl h
      have h := sp_goto (mi := 136) (pc := 66) (off := (-59)) (t := 7) (by decide +kernel) (by decide) rfl h
      exact h
    · refine ite_f hc ?_
      have h := sp_iconst (n := 0) (v := 0) (by decide +kernel) (by decide +kernel) h
      have h := sp_goto (mi := 136) (pc := 21) (off := 15) (t := 36) (by decide +kernel) (by decide) rfl h
      have h := sp_onk (i := .iadd) (by decide +kernel) rfl h
      have h := sp_istore_n (j := 2) (ls' := [.ref 55, .int i1, .int (i2 + 0), .long l3, pm_dead, .int i5]) (by decide +kernel) (Nat.le_of_ble_eq_true rfl) rfl h
      have h := sp_onk (i := .lload_n 3) (by decide +kernel) rfl h
      have h := sp_bipush (n := 100) (v := 100) (by decide +kernel) (by decide +kernel) h
      have h := sp_onk (i := .aload_n 0) (by decide +kernel) rfl h
      have h := sp_getR (jj := 12) (ci := 6) (n := 0) (by decide +kernel) (by decide +kernel) (by decide +kernel) hS h
      have h := sp_getR (jj := 28) (ci := 7) (n := 0) (by decide +kernel) (by decide +kernel) (by decide +kernel) hS h
      have h := sp_getR (jj := 77) (ci := 9) (n := 5) (by decide +kernel) (by decide +kernel) (by decide +kernel) hS h
      have h := sp_onk (i := .aload_n 0) (by decide +kernel) rfl h
      have h := sp_getK (jj := 22) (ci := 6) (n := 4) (b := 66) (by decide +kernel) (by decide +kernel) (by decide +kernel) (by decide +kernel) (by decide) hS h
      have h := sp_onk (i := .iload 5) (by decide +kernel) rfl h
      obtain ⟨hi, h⟩ := sp_iald (by decide +kernel) h
      refine ⟨hi, ?_⟩
      obtain ⟨hi, h⟩ := sp_iald (by decide +kernel) h
      refine ⟨hi, ?_⟩
      have h := sp_onk (i := .isub) (by decide +kernel) rfl h
      have h := sp_onk (i := .i2l) (by decide +kernel) rfl h
      have h := sp_onk (i := .lmul) (by decide +kernel) rfl h
      have h := sp_lstore_n (j := 3) (ls' := [.ref 55, .int i1, .int (i2 + 0), .long (l3 * ((100 - (aG w (gR w (gR w (gR w 55 0) 0) 5) (aG w 66 i5))).toInt64)), pm_dead, .int i5]) (by decide +kernel) (Nat.le_of_ble_eq_true rfl) rfl h
      have h := sp_iinc (j := 5) (n := 1) (v := 1) (ls' := [.ref 55, .int i1, .int (i2 + 0), .long (l3 * ((100 - (aG w (gR w (gR w (gR w 55 0) 0) 5) (aG w 66 i5))).toInt64)), pm_dead, .int (i5 + 1)]) (by decide +kernel) rfl (by decide +kernel) rfl h
      have h := sp_goto (mi := 136) (pc := 66) (off := (-59)) (t := 7) (by decide +kernel) (by decide) rfl h
      exact h
set_option maxRecDepth 20000 in
set_option maxHeartbeats 2000000 in
theorem U137_0 {X : pm_X} {k : Nat} {w w' : pm_W} {r : Option Value} {p1 : Int32} {p2 : Int32} {p3 : Int64} (hS : SK w) (h : PS X (k + 1) 137 0 [.ref 55, .int p1, .int p2, .long p3, pm_dead, pm_dead, pm_dead, pm_dead, pm_dead] [] w r w') : if (gI w 55 1) = 1 then (if p2 = (gI w 55 7) then (if (gI w 55 1) = 2 then (∃ (r7 : Option Value) (w8 : pm_W), PS X k 138 0 [.int (6 - p1), pm_dead, pm_dead, pm_dead] [] w r7 w8 ∧ (∀ x9 : Int64, r7 = some (.long x9) → SK w8 → (∃ (r10 : Option Value) (w11 : pm_W), PS X k 138 0 [.int (6 - (gI w8 55 6)), pm_dead, pm_dead, pm_dead] [] w8 r10 w11 ∧ (∀ x12 : Int64, r10 = some (.long x12) → SK w11 → (if (lg_cmp (p3 * x9) ((gL w8 55 8) * x12)) = 0 then (if (gI w11 55 6) ≤ p1 then (r = some (.int 0) ∧ w' = w11) else (r = some (.int 1) ∧ w' = w11)) else (if (lg_cmp (p3 * x9) ((gL w8 55 8) * x12)) ≤ 0 then (r = some (.int 0) ∧ w' = w11) else (r = some (.int 1) ∧ w' = w11))))))) else (if (gI w 55 6) ≤ p1 then (r = some (.int 0) ∧ w' = w) else (r = some (.int 1) ∧ w' = w))) else (if (gI w 55 7) ≤ p2 then (r = some (.int 0) ∧ w' = w) else (r = some (.int 1) ∧ w' = w))) else (if (gI w 55 1) = 2 then (∃ (r1 : Option Value) (w2 : pm_W), PS X k 138 0 [.int (6 - p1), pm_dead, pm_dead, pm_dead] [] w r1 w2 ∧ (∀ x3 : Int64, r1 = some (.long x3) → SK w2 → (∃ (r4 : Option Value) (w5 : pm_W), PS X k 138 0 [.int (6 - (gI w2 55 6)), pm_dead, pm_dead, pm_dead] [] w2 r4 w5 ∧ (∀ x6 : Int64, r4 = some (.long x6) → SK w5 → (if (lg_cmp (p3 * x3) ((gL w2 55 8) * x6)) = 0 then (if (gI w5 55 6) ≤ p1 then (r = some (.int 0) ∧ w' = w5) else (r = some (.int 1) ∧ w' = w5)) else (if (lg_cmp (p3 * x3) ((gL w2 55 8) * x6)) ≤ 0 then (r = some (.int 0) ∧ w' = w5) else (r = some (.int 1) ∧ w' = w5))))))) else (if (gI w 55 6) ≤ p1 then (r = some (.int 0) ∧ w' = w) else (r = some (.int 1) ∧ w' = w))) := by
  have h := sp_one (i := .aload_n 0) (by decide +kernel) rfl h
  have h := sp_getI (jj := 45) (ci := 6) (n := 1) (by decide +kernel) (by decide +kernel) (by decide +kernel) hS h
  have h := sp_iconst (n := 1) (v := 1) (by decide +kernel) (by decide +kernel) h
  rcases sp_icmp_ne (mi := 137) (pc := 5) (off := 25) (t := 30) (by decide +kernel) (by decide) rfl h with ⟨hc, h⟩ | ⟨hc, h⟩
  · refine ite_f hc ?_
    have h := sp_onk (i := .aload_n 0) (by decide +kernel) rfl h
    have h := sp_getI (jj := 45) (ci := 6) (n := 1) (by decide +kernel) (by decide +kernel) (by decide +kernel) hS h
    have h := sp_iconst (n := 2) (v := 2) (by decide +kernel) (by decide +kernel) h
    rcases sp_icmp_ne (mi := 137) (pc := 35) (off := 53) (t := 88) (by decide +kernel) (by decide) rfl h with ⟨hc, h⟩ | ⟨hc, h⟩
    · refine ite_f hc ?_
      have h := sp_onk (i := .iload_n 1) (by decide +kernel) rfl h
      have h := sp_onk (i := .aload_n 0) (by decide +kernel) rfl h
      have h := sp_getI (jj := 56) (ci := 6) (n := 6) (by decide +kernel) (by decide +kernel) (by decide +kernel) hS h
      rcases sp_icmp_ge (mi := 137) (pc := 93) (off := 7) (t := 100) (by decide +kernel) (by decide) rfl h with ⟨hc, h⟩ | ⟨hc, h⟩
      · refine ite_t hc ?_
        have h := sp_iconst (n := 0) (v := 0) (by decide +kernel) (by decide +kernel) h
        exact sp_iret (by decide +kernel) h
      · refine ite_f hc ?_
        have h := sp_iconst (n := 1) (v := 1) (by decide +kernel) (by decide +kernel) h
        have h := sp_goto (mi := 137) (pc := 97) (off := 4) (t := 101) (by decide +kernel) (by decide) rfl h
        exact sp_iret (by decide +kernel) h
    · refine ite_t (Classical.not_not.mp hc) ?_
      have h := sp_onk (i := .lload_n 3) (by decide +kernel) rfl h
      have h := sp_bipush (n := 6) (v := 6) (by decide +kernel) (by decide +kernel) h
      have h := sp_onk (i := .iload_n 1) (by decide +kernel) rfl h
      have h := sp_onk (i := .isub) (by decide +kernel) rfl h
      obtain ⟨r1, w2, hc, h⟩ := sp_callS (jj := 91) (mj := 138) (n := 1) (args := [.int (6 - p1)]) (ls' := [.int (6 - p1), pm_dead, pm_dead, pm_dead]) (by decide +kernel) (by decide +kernel) (by decide +kernel) rfl rfl rfl h
      refine ⟨r1, w2, hc, fun x3 er hSw2 => ?_⟩
      subst er
      have h : PS X k 137 46 [.ref 55, .int p1, .int p2, .long p3, pm_dead, pm_dead, pm_dead, pm_dead, pm_dead] [.long x3, .long p3] w2 r w' := h
      have h := sp_onk (i := .lmul) (by decide +kernel) rfl h
      have h := sp_lstore (j := 5) (ls' := [.ref 55, .int p1, .int p2, .long p3, pm_dead, .long (p3 * x3), pm_dead, pm_dead, pm_dead]) (by decide +kernel) (Nat.le_of_ble_eq_true rfl) rfl h
      have h := sp_onk (i := .aload_n 0) (by decide +kernel) rfl h
      have h := sp_getL (jj := 87) (ci := 6) (n := 8) (by decide +kernel) (by decide +kernel) (by decide +kernel) hSw2 h
      have h := sp_bipush (n := 6) (v := 6) (by decide +kernel) (by decide +kernel) h
      have h := sp_onk (i := .aload_n 0) (by decide +kernel) rfl h
      have h := sp_getI (jj := 56) (ci := 6) (n := 6) (by decide +kernel) (by decide +kernel) (by decide +kernel) hSw2 h
      have h := sp_onk (i := .isub) (by decide +kernel) rfl h
      obtain ⟨r4, w5, hc, h⟩ := sp_callS (jj := 91) (mj := 138) (n := 1) (args := [.int (6 - (gI w2 55 6))]) (ls' := [.int (6 - (gI w2 55 6)), pm_dead, pm_dead, pm_dead]) (by decide +kernel) (by decide +kernel) (by decide +kernel) rfl rfl rfl h
      refine ⟨r4, w5, hc, fun x6 er hSw5 => ?_⟩
      subst er
      have h : PS X k 137 63 [.ref 55, .int p1, .int p2, .long p3, pm_dead, .long (p3 * x3), pm_dead, pm_dead, pm_dead] [.long x6, .long (gL w2 55 8)] w5 r w' := h
      have h := sp_onk (i := .lmul) (by decide +kernel) rfl h
      have h := sp_lstore (j := 7) (ls' := [.ref 55, .int p1, .int p2, .long p3, pm_dead, .long (p3 * x3), pm_dead, .long ((gL w2 55 8) * x6), pm_dead]) (by decide +kernel) (Nat.le_of_ble_eq_true rfl) rfl h
      have h := sp_onk (i := .lload 5) (by decide +kernel) rfl h
      have h := sp_onk (i := .lload 7) (by decide +kernel) rfl h
      have h := sp_onk (i := .lcmp) (by decide +kernel) rfl h
      rcases sp_if_eq (mi := 137) (pc := 71) (off := 17) (t := 88) (by decide +kernel) (by decide) rfl h with ⟨hc, h⟩ | ⟨hc, h⟩
      · refine ite_t hc ?_
        have h := sp_onk (i := .iload_n 1) (by decide +kernel) rfl h
        have h := sp_onk (i := .aload_n 0) (by decide +kernel) rfl h
        have h := sp_getI (jj := 56) (ci := 6) (n := 6) (by decide +kernel) (by decide +kernel) (by decide +kernel) hSw5 h
        rcases sp_icmp_ge (mi := 137) (pc := 93) (off := 7) (t := 100) (by decide +kernel) (by decide) rfl h with ⟨hc, h⟩ | ⟨hc, h⟩
        · refine ite_t hc ?_
          have h := sp_iconst (n := 0) (v := 0) (by decide +kernel) (by decide +kernel) h
          exact sp_iret (by decide +kernel) h
        · refine ite_f hc ?_
          have h := sp_iconst (n := 1) (v := 1) (by decide +kernel) (by decide +kernel) h
          have h := sp_goto (mi := 137) (pc := 97) (off := 4) (t := 101) (by decide +kernel) (by decide) rfl h
          exact sp_iret (by decide +kernel) h
      · refine ite_f hc ?_
        have h := sp_onk (i := .lload 5) (by decide +kernel) rfl h
        have h := sp_onk (i := .lload 7) (by decide +kernel) rfl h
        have h := sp_onk (i := .lcmp) (by decide +kernel) rfl h
        rcases sp_if_le (mi := 137) (pc := 79) (off := 7) (t := 86) (by decide +kernel) (by decide) rfl h with ⟨hc, h⟩ | ⟨hc, h⟩
        · refine ite_t hc ?_
          have h := sp_iconst (n := 0) (v := 0) (by decide +kernel) (by decide +kernel) h
          exact sp_iret (by decide +kernel) h
        · refine ite_f hc ?_
          have h := sp_iconst (n := 1) (v := 1) (by decide +kernel) (by decide +kernel) h
          have h := sp_goto (mi := 137) (pc := 83) (off := 4) (t := 87) (by decide +kernel) (by decide) rfl h
          exact sp_iret (by decide +kernel) h
  · refine ite_t (Classical.not_not.mp hc) ?_
    have h := sp_onk (i := .iload_n 2) (by decide +kernel) rfl h
    have h := sp_onk (i := .aload_n 0) (by decide +kernel) rfl h
    have h := sp_getI (jj := 84) (ci := 6) (n := 7) (by decide +kernel) (by decide +kernel) (by decide +kernel) hS h
    rcases sp_icmp_eq (mi := 137) (pc := 13) (off := 17) (t := 30) (by decide +kernel) (by decide) rfl h with ⟨hc, h⟩ | ⟨hc, h⟩
    · refine ite_t hc ?_
      have h := sp_onk (i := .aload_n 0) (by decide +kernel) rfl h
      have h := sp_getI (jj := 45) (ci := 6) (n := 1) (by decide +kernel) (by decide +kernel) (by decide +kernel) hS h
      have h := sp_iconst (n := 2) (v := 2) (by decide +kernel) (by decide +kernel) h
      rcases sp_icmp_ne (mi := 137) (pc := 35) (off := 53) (t := 88) (by decide +kernel) (by decide) rfl h with ⟨hc, h⟩ | ⟨hc, h⟩
      · refine ite_f hc ?_
        have h := sp_onk (i := .iload_n 1) (by decide +kernel) rfl h
        have h := sp_onk (i := .aload_n 0) (by decide +kernel) rfl h
        have h := sp_getI (jj := 56) (ci := 6) (n := 6) (by decide +kernel) (by decide +kernel) (by decide +kernel) hS h
        rcases sp_icmp_ge (mi := 137) (pc := 93) (off := 7) (t := 100) (by decide +kernel) (by decide) rfl h with ⟨hc, h⟩ | ⟨hc, h⟩
        · refine ite_t hc ?_
          have h := sp_iconst (n := 0) (v := 0) (by decide +kernel) (by decide +kernel) h
          exact sp_iret (by decide +kernel) h
        · refine ite_f hc ?_
          have h := sp_iconst (n := 1) (v := 1) (by decide +kernel) (by decide +kernel) h
          have h := sp_goto (mi := 137) (pc := 97) (off := 4) (t := 101) (by decide +kernel) (by decide) rfl h
          exact sp_iret (by decide +kernel) h
      · refine ite_t (Classical.not_not.mp hc) ?_
        have h := sp_onk (i := .lload_n 3) (by decide +kernel) rfl h
        have h := sp_bipush (n := 6) (v := 6) (by decide +kernel) (by decide +kernel) h
        have h := sp_onk (i := .iload_n 1) (by decide +kernel) rfl h
        have h := sp_onk (i := .isub) (by decide +kernel) rfl h
        obtain ⟨r7, w8, hc, h⟩ := sp_callS (jj := 91) (mj := 138) (n := 1) (args := [.int (6 - p1)]) (ls' := [.int (6 - p1), pm_dead, pm_dead, pm_dead]) (by decide +kernel) (by decide +kernel) (by decide +kernel) rfl rfl rfl h
        refine ⟨r7, w8, hc, fun x9 er hSw8 => ?_⟩
        subst er
        have h : PS X k 137 46 [.ref 55, .int p1, .int p2, .long p3, pm_dead, pm_dead, pm_dead, pm_dead, pm_dead] [.long x9, .long p3] w8 r w' := h
        have h := sp_onk (i := .lmul) (by decide +kernel) rfl h
        have h := sp_lstore (j := 5) (ls' := [.ref 55, .int p1, .int p2, .long p3, pm_dead, .long (p3 * x9), pm_dead, pm_dead, pm_dead]) (by decide +kernel) (Nat.le_of_ble_eq_true rfl) rfl h
        have h := sp_onk (i := .aload_n 0) (by decide +kernel) rfl h
        have h := sp_getL (jj := 87) (ci := 6) (n := 8) (by decide +kernel) (by decide +kernel) (by decide +kernel) hSw8 h
        have h := sp_bipush (n := 6) (v := 6) (by decide +kernel) (by decide +kernel) h
        have h := sp_onk (i := .aload_n 0) (by decide +kernel) rfl h
        have h := sp_getI (jj := 56) (ci := 6) (n := 6) (by decide +kernel) (by decide +kernel) (by decide +kernel) hSw8 h
        have h := sp_onk (i := .isub) (by decide +kernel) rfl h
        obtain ⟨r10, w11, hc, h⟩ := sp_callS (jj := 91) (mj := 138) (n := 1) (args := [.int (6 - (gI w8 55 6))]) (ls' := [.int (6 - (gI w8 55 6)), pm_dead, pm_dead, pm_dead]) (by decide +kernel) (by decide +kernel) (by decide +kernel) rfl rfl rfl h
        refine ⟨r10, w11, hc, fun x12 er hSw11 => ?_⟩
        subst er
        have h : PS X k 137 63 [.ref 55, .int p1, .int p2, .long p3, pm_dead, .long (p3 * x9), pm_dead, pm_dead, pm_dead] [.long x12, .long (gL w8 55 8)] w11 r w' := h
        have h := sp_onk (i := .lmul) (by decide +kernel) rfl h
        have h := sp_lstore (j := 7) (ls' := [.ref 55, .int p1, .int p2, .long p3, pm_dead, .long (p3 * x9), pm_dead, .long ((gL w8 55 8) * x12), pm_dead]) (by decide +kernel) (Nat.le_of_ble_eq_true rfl) rfl h
        have h := sp_onk (i := .lload 5) (by decide +kernel) rfl h
        have h := sp_onk (i := .lload 7) (by decide +kernel) rfl h
        have h := sp_onk (i := .lcmp) (by decide +kernel) rfl h
        rcases sp_if_eq (mi := 137) (pc := 71) (off := 17) (t := 88) (by decide +kernel) (by decide) rfl h with ⟨hc, h⟩ | ⟨hc, h⟩
        · refine ite_t hc ?_
          have h := sp_onk (i := .iload_n 1) (by decide +kernel) rfl h
          have h := sp_onk (i := .aload_n 0) (by decide +kernel) rfl h
          have h := sp_getI (jj := 56) (ci := 6) (n := 6) (by decide +kernel) (by decide +kernel) (by decide +kernel) hSw11 h
          rcases sp_icmp_ge (mi := 137) (pc := 93) (off := 7) (t := 100) (by decide +kernel) (by decide) rfl h with ⟨hc, h⟩ | ⟨hc, h⟩
          · refine ite_t hc ?_
            have h := sp_iconst (n := 0) (v := 0) (by decide +kernel) (by decide +kernel) h
            exact sp_iret (by decide +kernel) h
          · refine ite_f hc ?_
            have h := sp_iconst (n := 1) (v := 1) (by decide +kernel) (by decide +kernel) h
            have h := sp_goto (mi := 137) (pc := 97) (off := 4) (t := 101) (by decide +kernel) (by decide) rfl h
            exact sp_iret (by decide +kernel) h
        · refine ite_f hc ?_
          have h := sp_onk (i := .lload 5) (by decide +kernel) rfl h
          have h := sp_onk (i := .lload 7) (by decide +kernel) rfl h
          have h := sp_onk (i := .lcmp) (by decide +kernel) rfl h
          rcases sp_if_le (mi := 137) (pc := 79) (off := 7) (t := 86) (by decide +kernel) (by decide) rfl h with ⟨hc, h⟩ | ⟨hc, h⟩
          · refine ite_t hc ?_
            have h := sp_iconst (n := 0) (v := 0) (by decide +kernel) (by decide +kernel) h
            exact sp_iret (by decide +kernel) h
          · refine ite_f hc ?_
            have h := sp_iconst (n := 1) (v := 1) (by decide +kernel) (by decide +kernel) h
            have h := sp_goto (mi := 137) (pc := 83) (off := 4) (t := 87) (by decide +kernel) (by decide) rfl h
            exact sp_iret (by decide +kernel) h
    · refine ite_f hc ?_
      have h := sp_onk (i := .iload_n 2) (by decide +kernel) rfl h
      have h := sp_onk (i := .aload_n 0) (by decide +kernel) rfl h
      have h := sp_getI (jj := 84) (ci := 6) (n := 7) (by decide +kernel) (by decide +kernel) (by decide +kernel) hS h
      rcases sp_icmp_ge (mi := 137) (pc := 21) (off := 7) (t := 28) (by decide +kernel) (by decide) rfl h with ⟨hc, h⟩ | ⟨hc, h⟩
      · refine ite_t hc ?_
        have h := sp_iconst (n := 0) (v := 0) (by decide +kernel) (by decide +kernel) h
        exact sp_iret (by decide +kernel) h
      · refine ite_f hc ?_
        have h := sp_iconst (n := 1) (v := 1) (by decide +kernel) (by decide +kernel) h
        have h := sp_goto (mi := 137) (pc := 25) (off := 4) (t := 29) (by decide +kernel) (by decide) rfl h
        exact sp_iret (by decide +kernel) h
set_option maxRecDepth 20000 in
set_option maxHeartbeats 2000000 in
theorem U138_0 {X : pm_X} {k : Nat} {w w' : pm_W} {r : Option Value} {p1 : Int32} (hS : SK w) (h : PS X (k + 1) 138 0 [.int p1, pm_dead, pm_dead, pm_dead] [] w r w') : PS X k 138 4 [.int p1, .long 1, pm_dead, .int 0] [] w r w' := by
  have h := sp_lconst1 (n := 1) (v := 1) (by decide +kernel) (by decide +kernel) h
  have h := sp_lstore_n (j := 1) (ls' := [.int p1, .long 1, pm_dead, pm_dead]) (by decide +kernel) (Nat.le_of_ble_eq_true rfl) rfl h
  have h := sp_iconst (n := 0) (v := 0) (by decide +kernel) (by decide +kernel) h
  have h := sp_istore_n (j := 3) (ls' := [.int p1, .long 1, pm_dead, .int 0]) (by decide +kernel) (Nat.le_of_ble_eq_true rfl) rfl h
  exact h
set_option maxRecDepth 20000 in
set_option maxHeartbeats 2000000 in
theorem U138_4 {X : pm_X} {k : Nat} {w w' : pm_W} {r : Option Value} {i0 : Int32} {l1 : Int64} {i3 : Int32} (hS : SK w) (h : PS X (k + 1) 138 4 [.int i0, .long l1, pm_dead, .int i3] [] w r w') : if i0 ≤ i3 then (r = some (.long l1) ∧ w' = w) else (PS X k 138 4 [.int i0, .long (l1 * 100), pm_dead, .int (i3 + 1)] [] w r w') := by
  have h := sp_one (i := .iload_n 3) (by decide +kernel) rfl h
  have h := sp_onk (i := .iload_n 0) (by decide +kernel) rfl h
  rcases sp_icmp_ge (mi := 138) (pc := 6) (off := 15) (t := 21) (by decide +kernel) (by decide) rfl h with ⟨hc, h⟩ | ⟨hc, h⟩
  · refine ite_t hc ?_
    have h := sp_onk (i := .lload_n 1) (by decide +kernel) rfl h
    exact sp_lret (by decide +kernel) h
  · refine ite_f hc ?_
    have h := sp_onk (i := .lload_n 1) (by decide +kernel) rfl h
    have h := sp_ldc2 (j := 95) (v := 100) (by decide +kernel) (by decide +kernel) h
    have h := sp_onk (i := .lmul) (by decide +kernel) rfl h
    have h := sp_lstore_n (j := 1) (ls' := [.int i0, .long (l1 * 100), pm_dead, .int i3]) (by decide +kernel) (Nat.le_of_ble_eq_true rfl) rfl h
    have h := sp_iinc (j := 3) (n := 1) (v := 1) (ls' := [.int i0, .long (l1 * 100), pm_dead, .int (i3 + 1)]) (by decide +kernel) rfl (by decide +kernel) rfl h
    have h := sp_goto (mi := 138) (pc := 18) (off := (-14)) (t := 4) (by decide +kernel) (by decide) rfl h
    exact h
set_option maxRecDepth 20000 in
set_option maxHeartbeats 2000000 in
theorem U139_0 {X : pm_X} {k : Nat} {w w' : pm_W} {r : Option Value} {p1 : Int32} {p2 : Int32} {p3 : Int32} {p4 : Int32} {p5 : Int32} {p6 : Int32} (hS : SK w) (h : PS X (k + 1) 139 0 [.ref 0, .int p1, .int p2, .int p3, .int p4, .int p5, .int p6] [] w r w') : ∃ (r1 : Option Value) (w2 : pm_W), PS X k 131 0 [.ref 0, .int p1, .int p2, .int p3, .int p4, .int p5] [] w r1 w2 ∧ (∀ x3 : Int32, r1 = some (.int x3) → SK w2 → (if x3 = 0 then (r = some (.long (-1)) ∧ w' = w2) else (if p6 = 0 then (r = some (.long (gL w2 55 8)) ∧ w' = w2) else (∃ (r4 : Option Value) (w5 : pm_W), PS X k 138 0 [.int (gI w2 55 6), pm_dead, pm_dead, pm_dead] [] w2 r4 w5 ∧ (∀ x6 : Int64, r4 = some (.long x6) → SK w5 → (r = some (.long x6) ∧ w' = w5)))))) := by
  have h := sp_one (i := .aload_n 0) (by decide +kernel) rfl h
  have h := sp_onk (i := .iload_n 1) (by decide +kernel) rfl h
  have h := sp_onk (i := .iload_n 2) (by decide +kernel) rfl h
  have h := sp_onk (i := .iload_n 3) (by decide +kernel) rfl h
  have h := sp_onk (i := .iload 4) (by decide +kernel) rfl h
  have h := sp_onk (i := .iload 5) (by decide +kernel) rfl h
  obtain ⟨r1, w2, hc, h⟩ := sp_callV (jj := 262) (mj := 131) (n := 5) (v := .ref 0) (args := [.int p5, .int p4, .int p3, .int p2, .int p1]) (ls' := [.ref 0, .int p1, .int p2, .int p3, .int p4, .int p5]) (by decide +kernel) (by decide +kernel) rfl rfl rfl h
  refine ⟨r1, w2, hc, fun x3 er hSw2 => ?_⟩
  subst er
  have h : PS X k 139 11 [.ref 0, .int p1, .int p2, .int p3, .int p4, .int p5, .int p6] [.int x3] w2 r w' := h
  rcases sp_if_ne (mi := 139) (pc := 11) (off := 7) (t := 18) (by decide +kernel) (by decide) rfl h with ⟨hc, h⟩ | ⟨hc, h⟩
  · refine ite_f hc ?_
    have h := sp_onk (i := .iload 6) (by decide +kernel) rfl h
    rcases sp_if_eq (mi := 139) (pc := 20) (off := 16) (t := 36) (by decide +kernel) (by decide) rfl h with ⟨hc, h⟩ | ⟨hc, h⟩
    · refine ite_t hc ?_
      have h := sp_onk (i := .aload_n 0) (by decide +kernel) rfl h
      have h := sp_getK (jj := 48) (ci := 11) (n := 6) (b := 55) (by decide +kernel) (by decide +kernel) (by decide +kernel) (by decide +kernel) (by decide) hSw2 h
      have h := sp_getL (jj := 280) (ci := 6) (n := 8) (by decide +kernel) (by decide +kernel) (by decide +kernel) hSw2 h
      exact sp_lret (by decide +kernel) h
    · refine ite_f hc ?_
      have h := sp_onk (i := .aload_n 0) (by decide +kernel) rfl h
      have h := sp_getK (jj := 48) (ci := 11) (n := 6) (b := 55) (by decide +kernel) (by decide +kernel) (by decide +kernel) (by decide +kernel) (by decide) hSw2 h
      have h := sp_getI (jj := 265) (ci := 6) (n := 6) (by decide +kernel) (by decide +kernel) (by decide +kernel) hSw2 h
      obtain ⟨r4, w5, hc, h⟩ := sp_callS (jj := 276) (mj := 138) (n := 1) (args := [.int (gI w2 55 6)]) (ls' := [.int (gI w2 55 6), pm_dead, pm_dead, pm_dead]) (by decide +kernel) (by decide +kernel) (by decide +kernel) rfl rfl rfl h
      refine ⟨r4, w5, hc, fun x6 er hSw5 => ?_⟩
      subst er
      have h : PS X k 139 33 [.ref 0, .int p1, .int p2, .int p3, .int p4, .int p5, .int p6] [.long x6] w5 r w' := h
      have h := sp_goto (mi := 139) (pc := 33) (off := 10) (t := 43) (by decide +kernel) (by decide) rfl h
      exact sp_lret (by decide +kernel) h
  · refine ite_t (Classical.not_not.mp hc) ?_
    have h := sp_ldc2 (j := 274) (v := (-1)) (by decide +kernel) (by decide +kernel) h
    exact sp_lret (by decide +kernel) h
set_option maxRecDepth 20000 in
set_option maxHeartbeats 2000000 in
theorem U266_0 {X : pm_X} {k : Nat} {w w' : pm_W} {r : Option Value} {p1 : Int32} {p2 : Int32} {p3 : Int32} {p4 : Int32} {p5 : Int32} (hS : SK w) (h : PS X (k + 1) 266 0 [.ref 147, .int p1, .int p2, .int p3, .int p4, .int p5, pm_dead, pm_dead, pm_dead, pm_dead, pm_dead, pm_dead, pm_dead] [] w r w') : ∀ w1 : pm_W, w1 = sI w 147 23 0 → (PS X k 266 11 [.ref 147, .int p1, .int p2, .int p3, .int p4, .int p5, .long 0, pm_dead, .int 2, pm_dead, pm_dead, pm_dead, pm_dead] [] w1 r w') := by
  have h := sp_one (i := .aload_n 0) (by decide +kernel) rfl h
  have h := sp_iconst (n := 0) (v := 0) (by decide +kernel) (by decide +kernel) h
  have h := sp_putI (jj := 283) (ci := 12) (n := 23) (ty := .int) (by decide +kernel) (by decide +kernel) (by decide +kernel) hS h
  intro w1 ew1
  rw [← ew1] at h
  have hSw1 : SK w1 := by rw [ew1]; exact SK_sI hS
  have h := sp_lconst (n := 0) (v := 0) (by decide +kernel) (by decide +kernel) h
  have h := sp_lstore (j := 6) (ls' := [.ref 147, .int p1, .int p2, .int p3, .int p4, .int p5, .long 0, pm_dead, pm_dead, pm_dead, pm_dead, pm_dead, pm_dead]) (by decide +kernel) (Nat.le_of_ble_eq_true rfl) rfl h
  have h := sp_iconst (n := 2) (v := 2) (by decide +kernel) (by decide +kernel) h
  have h := sp_istore (j := 8) (ls' := [.ref 147, .int p1, .int p2, .int p3, .int p4, .int p5, .long 0, pm_dead, .int 2, pm_dead, pm_dead, pm_dead, pm_dead]) (by decide +kernel) (Nat.le_of_ble_eq_true rfl) rfl h
  exact h
set_option maxRecDepth 20000 in
set_option maxHeartbeats 2000000 in
theorem U266_11 {X : pm_X} {k : Nat} {w w' : pm_W} {r : Option Value} {i1 : Int32} {i2 : Int32} {i3 : Int32} {i4 : Int32} {i5 : Int32} {l6 : Int64} {i8 : Int32} {u9 : Value} {u10 : Value} {u12 : Value} (hS : SK w) (h : PS X (k + 1) 266 11 [.ref 147, .int i1, .int i2, .int i3, .int i4, .int i5, .long l6, pm_dead, .int i8, u9, u10, pm_dead, u12] [] w r w') : if 7 ≤ i8 then (if (gI w 147 23) ≤ 0 then (r = some (.int 0) ∧ w' = w) else (r = some (.int 1) ∧ w' = w)) else (PS X k 266 21 [.ref 147, .int i1, .int i2, .int i3, .int i4, .int i5, .long l6, pm_dead, .int i8, .int 0, u10, pm_dead, u12] [] w r w') := by
  have h := sp_one (i := .iload 8) (by decide +kernel) rfl h
  have h := sp_bipush (n := 7) (v := 7) (by decide +kernel) (by decide +kernel) h
  rcases sp_icmp_ge (mi := 266) (pc := 15) (off := 189) (t := 204) (by decide +kernel) (by decide) rfl h with ⟨hc, h⟩ | ⟨hc, h⟩
  · refine ite_t hc ?_
    have h := sp_onk (i := .aload_n 0) (by decide +kernel) rfl h
    have h := sp_getI (jj := 283) (ci := 12) (n := 23) (by decide +kernel) (by decide +kernel) (by decide +kernel) hS h
    rcases sp_if_le (mi := 266) (pc := 208) (off := 7) (t := 215) (by decide +kernel) (by decide) rfl h with ⟨hc, h⟩ | ⟨hc, h⟩
    · refine ite_t hc ?_
      have h := sp_iconst (n := 0) (v := 0) (by decide +kernel) (by decide +kernel) h
      exact sp_iret (by decide +kernel) h
    · refine ite_f hc ?_
      have h := sp_iconst (n := 1) (v := 1) (by decide +kernel) (by decide +kernel) h
      have h := sp_goto (mi := 266) (pc := 212) (off := 4) (t := 216) (by decide +kernel) (by decide) rfl h
      exact sp_iret (by decide +kernel) h
  · refine ite_f hc ?_
    have h := sp_iconst (n := 0) (v := 0) (by decide +kernel) (by decide +kernel) h
    have h := sp_istore (j := 9) (ls' := [.ref 147, .int i1, .int i2, .int i3, .int i4, .int i5, .long l6, pm_dead, .int i8, .int 0, u10, pm_dead, u12]) (by decide +kernel) (Nat.le_of_ble_eq_true rfl) rfl h
    exact h
set_option maxRecDepth 20000 in
set_option maxHeartbeats 2000000 in
theorem U266_21 {X : pm_X} {k : Nat} {w w' : pm_W} {r : Option Value} {i1 : Int32} {i2 : Int32} {i3 : Int32} {i4 : Int32} {i5 : Int32} {l6 : Int64} {i8 : Int32} {i9 : Int32} {u10 : Value} {u12 : Value} (hS : SK w) (h : PS X (k + 1) 266 21 [.ref 147, .int i1, .int i2, .int i3, .int i4, .int i5, .long l6, pm_dead, .int i8, .int i9, u10, pm_dead, u12] [] w r w') : ∃ (r1 : Option Value) (w2 : pm_W), PS X k 267 0 [.int (i8 - 2), pm_dead, pm_dead] [] w r1 w2 ∧ (∀ x3 : Int32, r1 = some (.int x3) → SK w2 → (if x3 ≤ i9 then (PS X k 266 11 [.ref 147, .int i1, .int i2, .int i3, .int i4, .int i5, .long l6, pm_dead, .int (i8 + 1), .int i9, u10, pm_dead, u12] [] w2 r w') else (∃ (r4 : Option Value) (w5 : pm_W), PS X k 224 0 [.ref 147, .int i1, .int i2, .int 0] [] w2 r4 w5 ∧ (∀ x6 : Int32, r4 = some (.int x6) → SK w5 → (aI w5 158 0 ∧ (∀ w7 : pm_W, w7 = aS w5 158 0 x6 → (∃ (r8 : Option Value) (w9 : pm_W), PS X k 224 0 [.ref 147, .int i1, .int i2, .int 1] [] w7 r8 w9 ∧ (∀ x10 : Int32, r8 = some (.int x10) → SK w9 → (aI w9 158 1 ∧ (∀ w11 : pm_W, w11 = aS w9 158 1 x10 → (∃ (r12 : Option Value) (w13 : pm_W), PS X k 268 0 [.ref 147, .int i1, .int 2, .int i8, .int i9, pm_dead, pm_dead, pm_dead] [] w11 r12 w13 ∧ (∀ x14 : Int32, r12 = some (.int x14) → SK w13 → (if x14 = 0 then (PS X k 266 192 [.ref 147, .int i1, .int i2, .int i3, .int i4, .int i5, .long l6, pm_dead, .int i8, .int i9, u10, pm_dead, u12] [] w13 r w') else (∃ (r15 : Option Value) (w16 : pm_W), PS X k 224 0 [.ref 147, .int i1, .int i2, .int 2] [] w13 r15 w16 ∧ (∀ x17 : Int32, r15 = some (.int x17) → SK w16 → (∃ (r18 : Option Value) (w19 : pm_W), PS X k 269 0 [.ref 147, .int i1, .int i8, .int x17, pm_dead, pm_dead] [] w16 r18 w19 ∧ (∀ x20 : Int32, r18 = some (.int x20) → SK w19 → (if x20 = 0 then (PS X k 266 192 [.ref 147, .int i1, .int i2, .int i3, .int i4, .int i5, .long l6, pm_dead, .int i8, .int i9, u10, pm_dead, u12] [] w19 r w') else (∀ w21 : pm_W, w21 = sI w19 147 24 i8 → (if i3 = 0 then (if (gI w21 147 23) ≤ 0 then (PS X k 266 152 [.ref 147, .int i1, .int i2, .int i3, .int i4, .int i5, .long l6, pm_dead, .int i8, .int i9, .long 0, pm_dead, u12] [] w21 r w') else (if 0 < (lg_cmp 0 l6) then (PS X k 266 152 [.ref 147, .int i1, .int i2, .int i3, .int i4, .int i5, .long l6, pm_dead, .int i8, .int i9, .long 0, pm_dead, u12] [] w21 r w') else (PS X k 266 192 [.ref 147, .int i1, .int i2, .int i3, .int i4, .int i5, .long l6, pm_dead, .int i8, .int i9, .long 0, pm_dead, u12] [] w21 r w'))) else (if i3 = 1 then (∃ (r25 : Option Value) (w26 : pm_W), PS X k 270 0 [.ref 147, .int i1, .int i4, .int i5, pm_dead, pm_dead] [] w21 r25 w26 ∧ (∀ x27 : Int32, r25 = some (.int x27) → SK w26 → (if (gI w26 147 23) ≤ 0 then (PS X k 266 152 [.ref 147, .int i1, .int i2, .int i3, .int i4, .int i5, .long l6, pm_dead, .int i8, .int i9, .long ((-x27).toInt64), pm_dead, u12] [] w26 r w') else (if 0 < (lg_cmp ((-x27).toInt64) l6) then (PS X k 266 152 [.ref 147, .int i1, .int i2, .int i3, .int i4, .int i5, .long l6, pm_dead, .int i8, .int i9, .long ((-x27).toInt64), pm_dead, u12] [] w26 r w') else (PS X k 266 192 [.ref 147, .int i1, .int i2, .int i3, .int i4, .int i5, .long l6, pm_dead, .int i8, .int i9, .long ((-x27).toInt64), pm_dead, u12] [] w26 r w'))))) else (∃ (r22 : Option Value) (w23 : pm_W), PS X k 271 0 [.ref 147, .int i1, .int i8, pm_dead, pm_dead, pm_dead] [] w21 r22 w23 ∧ (∀ x24 : Int64, r22 = some (.long x24) → SK w23 → (if (gI w23 147 23) ≤ 0 then (PS X k 266 152 [.ref 147, .int i1, .int i2, .int i3, .int i4, .int i5, .long l6, pm_dead, .int i8, .int i9, .long x24, pm_dead, u12] [] w23 r w') else (if 0 < (lg_cmp x24 l6) then (PS X k 266 152 [.ref 147, .int i1, .int i2, .int i3, .int i4, .int i5, .long l6, pm_dead, .int i8, .int i9, .long x24, pm_dead, u12] [] w23 r w') else (PS X k 266 192 [.ref 147, .int i1, .int i2, .int i3, .int i4, .int i5, .long l6, pm_dead, .int i8, .int i9, .long x24, pm_dead, u12] [] w23 r w')))))))))))))))))))))))))) := by
  have h := sp_one (i := .iload 9) (by decide +kernel) rfl h
  have h := sp_onk (i := .iload 8) (by decide +kernel) rfl h
  have h := sp_iconst (n := 2) (v := 2) (by decide +kernel) (by decide +kernel) h
  have h := sp_onk (i := .isub) (by decide +kernel) rfl h
  obtain ⟨r1, w2, hc, h⟩ := sp_callS (jj := 286) (mj := 267) (n := 1) (args := [.int (i8 - 2)]) (ls' := [.int (i8 - 2), pm_dead, pm_dead]) (by decide +kernel) (by decide +kernel) (by decide +kernel) rfl rfl rfl h
  refine ⟨r1, w2, hc, fun x3 er hSw2 => ?_⟩
  subst er
  have h : PS X k 266 30 [.ref 147, .int i1, .int i2, .int i3, .int i4, .int i5, .long l6, pm_dead, .int i8, .int i9, u10, pm_dead, u12] [.int x3, .int i9] w2 r w' := h
  rcases sp_icmp_ge (mi := 266) (pc := 30) (off := 168) (t := 198) (by decide +kernel) (by decide) rfl h with ⟨hc, h⟩ | ⟨hc, h⟩
  · refine ite_t hc ?_
    have h := sp_iinc (j := 8) (n := 1) (v := 1) (ls' := [.ref 147, .int i1, .int i2, .int i3, .int i4, .int i5, .long l6, pm_dead, .int (i8 + 1), .int i9, u10, pm_dead, u12]) (by decide +kernel) rfl (by decide +kernel) rfl h
    have h := sp_goto (mi := 266) (pc := 201) (off := (-190)) (t := 11) (by decide +kernel) (by decide) rfl h
    exact h
  · refine ite_f hc ?_
    have h := sp_onk (i := .aload_n 0) (by decide +kernel) rfl h
    have h := sp_getK (jj := 41) (ci := 12) (n := 21) (b := 158) (by decide +kernel) (by decide +kernel) (by decide +kernel) (by decide +kernel) (by decide) hSw2 h
    have h := sp_iconst (n := 0) (v := 0) (by decide +kernel) (by decide +kernel) h
    have h := sp_onk (i := .aload_n 0) (by decide +kernel) rfl h
    have h := sp_onk (i := .iload_n 1) (by decide +kernel) rfl h
    have h := sp_onk (i := .iload_n 2) (by decide +kernel) rfl h
    have h := sp_iconst (n := 0) (v := 0) (by decide +kernel) (by decide +kernel) h
    obtain ⟨r4, w5, hc, h⟩ := sp_callV (jj := 172) (mj := 224) (n := 3) (v := .ref 147) (args := [.int 0, .int i2, .int i1]) (ls' := [.ref 147, .int i1, .int i2, .int 0]) (by decide +kernel) (by decide +kernel) rfl rfl rfl h
    refine ⟨r4, w5, hc, fun x6 er hSw5 => ?_⟩
    subst er
    have h : PS X k 266 45 [.ref 147, .int i1, .int i2, .int i3, .int i4, .int i5, .long l6, pm_dead, .int i8, .int i9, u10, pm_dead, u12] [.int x6, .int 0, .ref 158] w5 r w' := h
    obtain ⟨hi, h⟩ := sp_iast (by decide +kernel) h
    refine ⟨hi, ?_⟩
    intro w7 ew7
    rw [← ew7] at h
    have hSw7 : SK w7 := by rw [ew7]; exact SK_aS hSw5
    have h := sp_onk (i := .aload_n 0) (by decide +kernel) rfl h
    have h := sp_getK (jj := 41) (ci := 12) (n := 21) (b := 158) (by decide +kernel) (by decide +kernel) (by decide +kernel) (by decide +kernel) (by decide) hSw7 h
    have h := sp_iconst (n := 1) (v := 1) (by decide +kernel) (by decide +kernel) h
    have h := sp_onk (i := .aload_n 0) (by decide +kernel) rfl h
    have h := sp_onk (i := .iload_n 1) (by decide +kernel) rfl h
    have h := sp_onk (i := .iload_n 2) (by decide +kernel) rfl h
    have h := sp_iconst (n := 1) (v := 1) (by decide +kernel) (by decide +kernel) h
    obtain ⟨r8, w9, hc, h⟩ := sp_callV (jj := 172) (mj := 224) (n := 3) (v := .ref 147) (args := [.int 1, .int i2, .int i1]) (ls' := [.ref 147, .int i1, .int i2, .int 1]) (by decide +kernel) (by decide +kernel) rfl rfl rfl h
    refine ⟨r8, w9, hc, fun x10 er hSw9 => ?_⟩
    subst er
    have h : PS X k 266 58 [.ref 147, .int i1, .int i2, .int i3, .int i4, .int i5, .long l6, pm_dead, .int i8, .int i9, u10, pm_dead, u12] [.int x10, .int 1, .ref 158] w9 r w' := h
    obtain ⟨hi, h⟩ := sp_iast (by decide +kernel) h
    refine ⟨hi, ?_⟩
    intro w11 ew11
    rw [← ew11] at h
    have hSw11 : SK w11 := by rw [ew11]; exact SK_aS hSw9
    have h := sp_onk (i := .aload_n 0) (by decide +kernel) rfl h
    have h := sp_onk (i := .iload_n 1) (by decide +kernel) rfl h
    have h := sp_iconst (n := 2) (v := 2) (by decide +kernel) (by decide +kernel) h
    have h := sp_onk (i := .iload 8) (by decide +kernel) rfl h
    have h := sp_onk (i := .iload 9) (by decide +kernel) rfl h
    obtain ⟨r12, w13, hc, h⟩ := sp_callV (jj := 289) (mj := 268) (n := 4) (v := .ref 147) (args := [.int i9, .int i8, .int 2, .int i1]) (ls' := [.ref 147, .int i1, .int 2, .int i8, .int i9, pm_dead, pm_dead, pm_dead]) (by decide +kernel) (by decide +kernel) rfl rfl rfl h
    refine ⟨r12, w13, hc, fun x14 er hSw13 => ?_⟩
    subst er
    have h : PS X k 266 69 [.ref 147, .int i1, .int i2, .int i3, .int i4, .int i5, .long l6, pm_dead, .int i8, .int i9, u10, pm_dead, u12] [.int x14] w13 r w' := h
    rcases sp_if_eq (mi := 266) (pc := 69) (off := 123) (t := 192) (by decide +kernel) (by decide) rfl h with ⟨hc, h⟩ | ⟨hc, h⟩
    · refine ite_t hc ?_
      exact h
    · refine ite_f hc ?_
      have h := sp_onk (i := .aload_n 0) (by decide +kernel) rfl h
      have h := sp_onk (i := .iload_n 1) (by decide +kernel) rfl h
      have h := sp_onk (i := .iload 8) (by decide +kernel) rfl h
      have h := sp_onk (i := .aload_n 0) (by decide +kernel) rfl h
      have h := sp_onk (i := .iload_n 1) (by decide +kernel) rfl h
      have h := sp_onk (i := .iload_n 2) (by decide +kernel) rfl h
      have h := sp_iconst (n := 2) (v := 2) (by decide +kernel) (by decide +kernel) h
      obtain ⟨r15, w16, hc, h⟩ := sp_callV (jj := 172) (mj := 224) (n := 3) (v := .ref 147) (args := [.int 2, .int i2, .int i1]) (ls' := [.ref 147, .int i1, .int i2, .int 2]) (by decide +kernel) (by decide +kernel) rfl rfl rfl h
      refine ⟨r15, w16, hc, fun x17 er hSw16 => ?_⟩
      subst er
      have h : PS X k 266 83 [.ref 147, .int i1, .int i2, .int i3, .int i4, .int i5, .long l6, pm_dead, .int i8, .int i9, u10, pm_dead, u12] [.int x17, .int i8, .int i1, .ref 147] w16 r w' := h
      obtain ⟨r18, w19, hc, h⟩ := sp_callV (jj := 293) (mj := 269) (n := 3) (v := .ref 147) (args := [.int x17, .int i8, .int i1]) (ls' := [.ref 147, .int i1, .int i8, .int x17, pm_dead, pm_dead]) (by decide +kernel) (by decide +kernel) rfl rfl rfl h
      refine ⟨r18, w19, hc, fun x20 er hSw19 => ?_⟩
      subst er
      have h : PS X k 266 86 [.ref 147, .int i1, .int i2, .int i3, .int i4, .int i5, .long l6, pm_dead, .int i8, .int i9, u10, pm_dead, u12] [.int x20] w19 r w' := h
      rcases sp_if_ne (mi := 266) (pc := 86) (off := 6) (t := 92) (by decide +kernel) (by decide) rfl h with ⟨hc, h⟩ | ⟨hc, h⟩
      · refine ite_f hc ?_
        have h := sp_onk (i := .aload_n 0) (by decide +kernel) rfl h
        have h := sp_onk (i := .iload 8) (by decide +kernel) rfl h
        have h := sp_putI (jj := 278) (ci := 12) (n := 24) (ty := .int) (by decide +kernel) (by decide +kernel) (by decide +kernel) hSw19 h
        intro w21 ew21
        rw [← ew21] at h
        have hSw21 : SK w21 := by rw [ew21]; exact SK_sI hSw19
        have h := sp_onk (i := .iload_n 3) (by decide +kernel) rfl h
        rcases sp_if_ne (mi := 266) (pc := 99) (off := 7) (t := 106) (by decide +kernel) (by decide) rfl h with ⟨hc, h⟩ | ⟨hc, h⟩
        · refine ite_f hc ?_
          have h := sp_onk (i := .iload_n 3) (by decide +kernel) rfl h
          have h := sp_iconst (n := 1) (v := 1) (by decide +kernel) (by decide +kernel) h
          rcases sp_icmp_ne (mi := 266) (pc := 108) (off := 17) (t := 125) (by decide +kernel) (by decide) rfl h with ⟨hc, h⟩ | ⟨hc, h⟩
          · refine ite_f hc ?_
            have h := sp_onk (i := .aload_n 0) (by decide +kernel) rfl h
            have h := sp_onk (i := .iload_n 1) (by decide +kernel) rfl h
            have h := sp_onk (i := .iload 8) (by decide +kernel) rfl h
            obtain ⟨r22, w23, hc, h⟩ := sp_callV (jj := 299) (mj := 271) (n := 2) (v := .ref 147) (args := [.int i8, .int i1]) (ls' := [.ref 147, .int i1, .int i8, pm_dead, pm_dead, pm_dead]) (by decide +kernel) (by decide +kernel) rfl rfl rfl h
            refine ⟨r22, w23, hc, fun x24 er hSw23 => ?_⟩
            subst er
            have h : PS X k 266 132 [.ref 147, .int i1, .int i2, .int i3, .int i4, .int i5, .long l6, pm_dead, .int i8, .int i9, u10, pm_dead, u12] [.long x24] w23 r w' := h
            have h := sp_lstore (j := 10) (ls' := [.ref 147, .int i1, .int i2, .int i3, .int i4, .int i5, .long l6, pm_dead, .int i8, .int i9, .long x24, pm_dead, u12]) (by decide +kernel) (Nat.le_of_ble_eq_true rfl) rfl h
            have h := sp_onk (i := .aload_n 0) (by decide +kernel) rfl h
            have h := sp_getI (jj := 283) (ci := 12) (n := 23) (by decide +kernel) (by decide +kernel) (by decide +kernel) hSw23 h
            rcases sp_if_le (mi := 266) (pc := 138) (off := 14) (t := 152) (by decide +kernel) (by decide) rfl h with ⟨hc, h⟩ | ⟨hc, h⟩
            · refine ite_t hc ?_
              exact h
            · refine ite_f hc ?_
              have h := sp_onk (i := .lload 10) (by decide +kernel) rfl h
              have h := sp_onk (i := .lload 6) (by decide +kernel) rfl h
              have h := sp_onk (i := .lcmp) (by decide +kernel) rfl h
              rcases sp_if_gt (mi := 266) (pc := 146) (off := 6) (t := 152) (by decide +kernel) (by decide) rfl h with ⟨hc, h⟩ | ⟨hc, h⟩
              · refine ite_t hc ?_
                exact h
              · refine ite_f hc ?_
                have h := sp_goto (mi := 266) (pc := 149) (off := 43) (t := 192) (by decide +kernel) (by decide) rfl h
                exact h
          · refine ite_t (Classical.not_not.mp hc) ?_
            have h := sp_onk (i := .aload_n 0) (by decide +kernel) rfl h
            have h := sp_onk (i := .iload_n 1) (by decide +kernel) rfl h
            have h := sp_onk (i := .iload 4) (by decide +kernel) rfl h
            have h := sp_onk (i := .iload 5) (by decide +kernel) rfl h
            obtain ⟨r25, w26, hc, h⟩ := sp_callV (jj := 296) (mj := 270) (n := 3) (v := .ref 147) (args := [.int i5, .int i4, .int i1]) (ls' := [.ref 147, .int i1, .int i4, .int i5, pm_dead, pm_dead]) (by decide +kernel) (by decide +kernel) rfl rfl rfl h
            refine ⟨r25, w26, hc, fun x27 er hSw26 => ?_⟩
            subst er
            have h : PS X k 266 120 [.ref 147, .int i1, .int i2, .int i3, .int i4, .int i5, .long l6, pm_dead, .int i8, .int i9, u10, pm_dead, u12] [.int x27] w26 r w' := h
            have h := sp_onk (i := .ineg) (by decide +kernel) rfl h
            have h := sp_onk (i := .i2l) (by decide +kernel) rfl h
            have h := sp_goto (mi := 266) (pc := 122) (off := 10) (t := 132) (by decide +kernel) (by decide) rfl h
            have h := sp_lstore (j := 10) (ls' := [.ref 147, .int i1, .int i2, .int i3, .int i4, .int i5, .long l6, pm_dead, .int i8, .int i9, .long ((-x27).toInt64), pm_dead, u12]) (by decide +kernel) (Nat.le_of_ble_eq_true rfl) rfl h
            have h := sp_onk (i := .aload_n 0) (by decide +kernel) rfl h
            have h := sp_getI (jj := 283) (ci := 12) (n := 23) (by decide +kernel) (by decide +kernel) (by decide +kernel) hSw26 h
            rcases sp_if_le (mi := 266) (pc := 138) (off := 14) (t := 152) (by decide +kernel) (by decide) rfl h with ⟨hc, h⟩ | ⟨hc, h⟩
            · refine ite_t hc ?_
              exact h
            · refine ite_f hc ?_
              have h := sp_onk (i := .lload 10) (by decide +kernel) rfl h
              have h := sp_onk (i := .lload 6) (by decide +kernel) rfl h
              have h := sp_onk (i := .lcmp) (by decide +kernel) rfl h
              rcases sp_if_gt (mi := 266) (pc := 146) (off := 6) (t := 152) (by decide +kernel) (by decide) rfl h with ⟨hc, h⟩ | ⟨hc, h⟩
              · refine ite_t hc ?_
                exact h
              · refine ite_f hc ?_
                have h := sp_goto (mi := 266) (pc := 149) (off := 43) (t := 192) (by decide +kernel) (by decide) rfl h
                exact h
        · refine ite_t (Classical.not_not.mp hc) ?_
          have h := sp_lconst (n := 0) (v := 0) (by decide +kernel) (by decide +kernel) h
          have h := sp_goto (mi := 266) (pc := 103) (off := 29) (t := 132) (by decide +kernel) (by decide) rfl h
          have h := sp_lstore (j := 10) (ls' := [.ref 147, .int i1, .int i2, .int i3, .int i4, .int i5, .long l6, pm_dead, .int i8, .int i9, .long 0, pm_dead, u12]) (by decide +kernel) (Nat.le_of_ble_eq_true rfl) rfl h
          have h := sp_onk (i := .aload_n 0) (by decide +kernel) rfl h
          have h := sp_getI (jj := 283) (ci := 12) (n := 23) (by decide +kernel) (by decide +kernel) (by decide +kernel) hSw21 h
          rcases sp_if_le (mi := 266) (pc := 138) (off := 14) (t := 152) (by decide +kernel) (by decide) rfl h with ⟨hc, h⟩ | ⟨hc, h⟩
          · refine ite_t hc ?_
            exact h
          · refine ite_f hc ?_
            have h := sp_onk (i := .lload 10) (by decide +kernel) rfl h
            have h := sp_onk (i := .lload 6) (by decide +kernel) rfl h
            have h := sp_onk (i := .lcmp) (by decide +kernel) rfl h
            rcases sp_if_gt (mi := 266) (pc := 146) (off := 6) (t := 152) (by decide +kernel) (by decide) rfl h with ⟨hc, h⟩ | ⟨hc, h⟩
            · refine ite_t hc ?_
              exact h
            · refine ite_f hc ?_
              have h := sp_goto (mi := 266) (pc := 149) (off := 43) (t := 192) (by decide +kernel) (by decide) rfl h
              exact h
      · refine ite_t (Classical.not_not.mp hc) ?_
        have h := sp_goto (mi := 266) (pc := 89) (off := 103) (t := 192) (by decide +kernel) (by decide) rfl h
        exact h
set_option maxRecDepth 20000 in
set_option maxHeartbeats 2000000 in
theorem U266_152 {X : pm_X} {k : Nat} {w w' : pm_W} {r : Option Value} {i1 : Int32} {i2 : Int32} {i3 : Int32} {i4 : Int32} {i5 : Int32} {l6 : Int64} {i8 : Int32} {i9 : Int32} {l10 : Int64} {u12 : Value} (hS : SK w) (h : PS X (k + 1) 266 152 [.ref 147, .int i1, .int i2, .int i3, .int i4, .int i5, .long l6, pm_dead, .int i8, .int i9, .long l10, pm_dead, u12] [] w r w') : ∀ w1 : pm_W, w1 = sI w 147 23 i8 → (PS X k 266 165 [.ref 147, .int i1, .int i2, .int i3, .int i4, .int i5, .long l10, pm_dead, .int i8, .int i9, .long l10, pm_dead, .int 0] [] w1 r w') := by
  have h := sp_one (i := .lload 10) (by decide +kernel) rfl h
  have h := sp_lstore (j := 6) (ls' := [.ref 147, .int i1, .int i2, .int i3, .int i4, .int i5, .long l10, pm_dead, .int i8, .int i9, .long l10, pm_dead, u12]) (by decide +kernel) (Nat.le_of_ble_eq_true rfl) rfl h
  have h := sp_onk (i := .aload_n 0) (by decide +kernel) rfl h
  have h := sp_onk (i := .iload 8) (by decide +kernel) rfl h
  have h := sp_putI (jj := 283) (ci := 12) (n := 23) (ty := .int) (by decide +kernel) (by decide +kernel) (by decide +kernel) hS h
  intro w1 ew1
  rw [← ew1] at h
  have hSw1 : SK w1 := by rw [ew1]; exact SK_sI hS
  have h := sp_iconst (n := 0) (v := 0) (by decide +kernel) (by decide +kernel) h
  have h := sp_istore (j := 12) (ls' := [.ref 147, .int i1, .int i2, .int i3, .int i4, .int i5, .long l10, pm_dead, .int i8, .int i9, .long l10, pm_dead, .int 0]) (by decide +kernel) (Nat.le_of_ble_eq_true rfl) rfl h
  exact h
set_option maxRecDepth 20000 in
set_option maxHeartbeats 2000000 in
theorem U266_165 {X : pm_X} {k : Nat} {w w' : pm_W} {r : Option Value} {i1 : Int32} {i2 : Int32} {i3 : Int32} {i4 : Int32} {i5 : Int32} {l6 : Int64} {i8 : Int32} {i9 : Int32} {l10 : Int64} {i12 : Int32} (hS : SK w) (h : PS X (k + 1) 266 165 [.ref 147, .int i1, .int i2, .int i3, .int i4, .int i5, .long l6, pm_dead, .int i8, .int i9, .long l10, pm_dead, .int i12] [] w r w') : if i8 ≤ i12 then (PS X k 266 192 [.ref 147, .int i1, .int i2, .int i3, .int i4, .int i5, .long l6, pm_dead, .int i8, .int i9, .long l10, pm_dead, .int i12] [] w r w') else (aI w 158 i12 ∧ (aI w 159 i12 ∧ (∀ w1 : pm_W, w1 = aS w 159 i12 (aG w 158 i12) → (PS X k 266 165 [.ref 147, .int i1, .int i2, .int i3, .int i4, .int i5, .long l6, pm_dead, .int i8, .int i9, .long l10, pm_dead, .int (i12 + 1)] [] w1 r w')))) := by
  have h := sp_one (i := .iload 12) (by decide +kernel) rfl h
  have h := sp_onk (i := .iload 8) (by decide +kernel) rfl h
  rcases sp_icmp_ge (mi := 266) (pc := 169) (off := 23) (t := 192) (by decide +kernel) (by decide) rfl h with ⟨hc, h⟩ | ⟨hc, h⟩
  · refine ite_t hc ?_
    exact h
  · refine ite_f hc ?_
    have h := sp_onk (i := .aload_n 0) (by decide +kernel) rfl h
    have h := sp_getK (jj := 44) (ci := 12) (n := 22) (b := 159) (by decide +kernel) (by decide +kernel) (by decide +kernel) (by decide +kernel) (by decide) hS h
    have h := sp_onk (i := .iload 12) (by decide +kernel) rfl h
    have h := sp_onk (i := .aload_n 0) (by decide +kernel) rfl h
    have h := sp_getK (jj := 41) (ci := 12) (n := 21) (b := 158) (by decide +kernel) (by decide +kernel) (by decide +kernel) (by decide +kernel) (by decide) hS h
    have h := sp_onk (i := .iload 12) (by decide +kernel) rfl h
    obtain ⟨hi, h⟩ := sp_iald (by decide +kernel) h
    refine ⟨hi, ?_⟩
    obtain ⟨hi, h⟩ := sp_iast (by decide +kernel) h
    refine ⟨hi, ?_⟩
    intro w1 ew1
    rw [← ew1] at h
    have hSw1 : SK w1 := by rw [ew1]; exact SK_aS hS
    have h := sp_iinc (j := 12) (n := 1) (v := 1) (ls' := [.ref 147, .int i1, .int i2, .int i3, .int i4, .int i5, .long l6, pm_dead, .int i8, .int i9, .long l10, pm_dead, .int (i12 + 1)]) (by decide +kernel) rfl (by decide +kernel) rfl h
    have h := sp_goto (mi := 266) (pc := 189) (off := (-24)) (t := 165) (by decide +kernel) (by decide) rfl h
    exact h
set_option maxRecDepth 20000 in
set_option maxHeartbeats 2000000 in
theorem U266_192 {X : pm_X} {k : Nat} {w w' : pm_W} {r : Option Value} {i1 : Int32} {i2 : Int32} {i3 : Int32} {i4 : Int32} {i5 : Int32} {l6 : Int64} {i8 : Int32} {i9 : Int32} {u10 : Value} {u12 : Value} (hS : SK w) (h : PS X (k + 1) 266 192 [.ref 147, .int i1, .int i2, .int i3, .int i4, .int i5, .long l6, pm_dead, .int i8, .int i9, u10, pm_dead, u12] [] w r w') : PS X k 266 21 [.ref 147, .int i1, .int i2, .int i3, .int i4, .int i5, .long l6, pm_dead, .int i8, .int (i9 + 1), u10, pm_dead, u12] [] w r w' := by
  have h := sp_iinc1 (j := 9) (n := 1) (v := 1) (ls' := [.ref 147, .int i1, .int i2, .int i3, .int i4, .int i5, .long l6, pm_dead, .int i8, .int (i9 + 1), u10, pm_dead, u12]) (by decide +kernel) rfl (by decide +kernel) rfl h
  have h := sp_goto (mi := 266) (pc := 195) (off := (-174)) (t := 21) (by decide +kernel) (by decide) rfl h
  exact h
set_option maxRecDepth 20000 in
set_option maxHeartbeats 2000000 in
theorem U267_0 {X : pm_X} {k : Nat} {w w' : pm_W} {r : Option Value} {p1 : Int32} (hS : SK w) (h : PS X (k + 1) 267 0 [.int p1, pm_dead, pm_dead] [] w r w') : PS X k 267 4 [.int p1, .int 1, .int 0] [] w r w' := by
  have h := sp_iconst1 (n := 1) (v := 1) (by decide +kernel) (by decide +kernel) h
  have h := sp_istore_n (j := 1) (ls' := [.int p1, .int 1, pm_dead]) (by decide +kernel) (Nat.le_of_ble_eq_true rfl) rfl h
  have h := sp_iconst (n := 0) (v := 0) (by decide +kernel) (by decide +kernel) h
  have h := sp_istore_n (j := 2) (ls' := [.int p1, .int 1, .int 0]) (by decide +kernel) (Nat.le_of_ble_eq_true rfl) rfl h
  exact h
set_option maxRecDepth 20000 in
set_option maxHeartbeats 2000000 in
theorem U267_4 {X : pm_X} {k : Nat} {w w' : pm_W} {r : Option Value} {i0 : Int32} {i1 : Int32} {i2 : Int32} (hS : SK w) (h : PS X (k + 1) 267 4 [.int i0, .int i1, .int i2] [] w r w') : if i0 ≤ i2 then (r = some (.int i1) ∧ w' = w) else (PS X k 267 4 [.int i0, .int (i1 * 9), .int (i2 + 1)] [] w r w') := by
  have h := sp_one (i := .iload_n 2) (by decide +kernel) rfl h
  have h := sp_onk (i := .iload_n 0) (by decide +kernel) rfl h
  rcases sp_icmp_ge (mi := 267) (pc := 6) (off := 14) (t := 20) (by decide +kernel) (by decide) rfl h with ⟨hc, h⟩ | ⟨hc, h⟩
  · refine ite_t hc ?_
    have h := sp_onk (i := .iload_n 1) (by decide +kernel) rfl h
    exact sp_iret (by decide +kernel) h
  · refine ite_f hc ?_
    have h := sp_onk (i := .iload_n 1) (by decide +kernel) rfl h
    have h := sp_bipush (n := 9) (v := 9) (by decide +kernel) (by decide +kernel) h
    have h := sp_onk (i := .imul) (by decide +kernel) rfl h
    have h := sp_istore_n (j := 1) (ls' := [.int i0, .int (i1 * 9), .int i2]) (by decide +kernel) (Nat.le_of_ble_eq_true rfl) rfl h
    have h := sp_iinc (j := 2) (n := 1) (v := 1) (ls' := [.int i0, .int (i1 * 9), .int (i2 + 1)]) (by decide +kernel) rfl (by decide +kernel) rfl h
    have h := sp_goto (mi := 267) (pc := 17) (off := (-13)) (t := 4) (by decide +kernel) (by decide) rfl h
    exact h
set_option maxRecDepth 20000 in
set_option maxHeartbeats 2000000 in
theorem U268_0 {X : pm_X} {k : Nat} {w w' : pm_W} {r : Option Value} {p1 : Int32} {p2 : Int32} {p3 : Int32} {p4 : Int32} (hS : SK w) (h : PS X (k + 1) 268 0 [.ref 147, .int p1, .int p2, .int p3, .int p4, pm_dead, pm_dead, pm_dead] [] w r w') : PS X k 268 9 [.ref 147, .int p1, .int p2, .int p3, .int p4, .int p4, .int (p3 - 1), pm_dead] [] w r w' := by
  have h := sp_one (i := .iload 4) (by decide +kernel) rfl h
  have h := sp_istore (j := 5) (ls' := [.ref 147, .int p1, .int p2, .int p3, .int p4, .int p4, pm_dead, pm_dead]) (by decide +kernel) (Nat.le_of_ble_eq_true rfl) rfl h
  have h := sp_onk (i := .iload_n 3) (by decide +kernel) rfl h
  have h := sp_iconst (n := 1) (v := 1) (by decide +kernel) (by decide +kernel) h
  have h := sp_onk (i := .isub) (by decide +kernel) rfl h
  have h := sp_istore (j := 6) (ls' := [.ref 147, .int p1, .int p2, .int p3, .int p4, .int p4, .int (p3 - 1), pm_dead]) (by decide +kernel) (Nat.le_of_ble_eq_true rfl) rfl h
  exact h
set_option maxRecDepth 20000 in
set_option maxHeartbeats 2000000 in
theorem U268_9 {X : pm_X} {k : Nat} {w w' : pm_W} {r : Option Value} {i1 : Int32} {i2 : Int32} {i3 : Int32} {i4 : Int32} {i5 : Int32} {i6 : Int32} (hS : SK w) (h : PS X (k + 1) 268 9 [.ref 147, .int i1, .int i2, .int i3, .int i4, .int i5, .int i6, pm_dead] [] w r w') : if i6 < i2 then (PS X k 268 46 [.ref 147, .int i1, .int i2, .int i3, .int i4, .int i5, .int 0, .int 0] [] w r w') else (aI w 158 i6 ∧ (∀ w1 : pm_W, w1 = aS w 158 i6 (i5 - i5 / 9 * 9) → (PS X k 268 9 [.ref 147, .int i1, .int i2, .int i3, .int i4, .int (i5 / 9), .int (i6 + (-1)), pm_dead] [] w1 r w'))) := by
  have h := sp_one (i := .iload 6) (by decide +kernel) rfl h
  have h := sp_onk (i := .iload_n 2) (by decide +kernel) rfl h
  rcases sp_icmp_lt (mi := 268) (pc := 12) (off := 28) (t := 40) (by decide +kernel) (by decide) rfl h with ⟨hc, h⟩ | ⟨hc, h⟩
  · refine ite_t hc ?_
    have h := sp_iconst (n := 0) (v := 0) (by decide +kernel) (by decide +kernel) h
    have h := sp_istore (j := 6) (ls' := [.ref 147, .int i1, .int i2, .int i3, .int i4, .int i5, .int 0, pm_dead]) (by decide +kernel) (Nat.le_of_ble_eq_true rfl) rfl h
    have h := sp_iconst (n := 0) (v := 0) (by decide +kernel) (by decide +kernel) h
    have h := sp_istore (j := 7) (ls' := [.ref 147, .int i1, .int i2, .int i3, .int i4, .int i5, .int 0, .int 0]) (by decide +kernel) (Nat.le_of_ble_eq_true rfl) rfl h
    exact h
  · refine ite_f hc ?_
    have h := sp_onk (i := .aload_n 0) (by decide +kernel) rfl h
    have h := sp_getK (jj := 41) (ci := 12) (n := 21) (b := 158) (by decide +kernel) (by decide +kernel) (by decide +kernel) (by decide +kernel) (by decide) hS h
    have h := sp_onk (i := .iload 6) (by decide +kernel) rfl h
    have h := sp_onk (i := .iload 5) (by decide +kernel) rfl h
    have h := sp_bipush (n := 9) (v := 9) (by decide +kernel) (by decide +kernel) h
    have h := sp_irem (by decide +kernel) h
    obtain ⟨hi, h⟩ := sp_iast (by decide +kernel) h
    refine ⟨hi, ?_⟩
    intro w1 ew1
    rw [← ew1] at h
    have hSw1 : SK w1 := by rw [ew1]; exact SK_aS hS
    have h := sp_onk (i := .iload 5) (by decide +kernel) rfl h
    have h := sp_bipush (n := 9) (v := 9) (by decide +kernel) (by decide +kernel) h
    have h := sp_idiv (by decide +kernel) h
    have h := sp_istore (j := 5) (ls' := [.ref 147, .int i1, .int i2, .int i3, .int i4, .int (i5 / 9), .int i6, pm_dead]) (by decide +kernel) (Nat.le_of_ble_eq_true rfl) rfl h
    have h := sp_iinc (j := 6) (n := (-1)) (v := (-1)) (ls' := [.ref 147, .int i1, .int i2, .int i3, .int i4, .int (i5 / 9), .int (i6 + (-1)), pm_dead]) (by decide +kernel) rfl (by decide +kernel) rfl h
    have h := sp_goto (mi := 268) (pc := 37) (off := (-28)) (t := 9) (by decide +kernel) (by decide) rfl h
    exact h
set_option maxRecDepth 20000 in
set_option maxHeartbeats 2000000 in
theorem U268_46 {X : pm_X} {k : Nat} {w w' : pm_W} {r : Option Value} {i1 : Int32} {i2 : Int32} {i3 : Int32} {i4 : Int32} {i5 : Int32} {i6 : Int32} {i7 : Int32} (hS : SK w) (h : PS X (k + 1) 268 46 [.ref 147, .int i1, .int i2, .int i3, .int i4, .int i5, .int i6, .int i7] [] w r w') : if i3 ≤ i7 then (r = some (.int 1) ∧ w' = w) else (aI w 158 i7 ∧ (∃ (r1 : Option Value) (w2 : pm_W), PS X k 221 0 [.ref 147, .int i1, .int (aG w 158 i7)] [] w r1 w2 ∧ (∀ x3 : Int32, r1 = some (.int x3) → SK w2 → (if x3 = 0 then (r = some (.int 0) ∧ w' = w2) else (aI w2 158 i7 ∧ (if ((i6 >>> (aG w2 158 i7 &&& 31)) &&& 1) = 1 then (r = some (.int 0) ∧ w' = w2) else (aI w2 158 i7 ∧ (PS X k 268 46 [.ref 147, .int i1, .int i2, .int i3, .int i4, .int i5, .int (i6 ||| (1 <<< (aG w2 158 i7 &&& 31))), .int (i7 + 1)] [] w2 r w')))))))) := by
  have h := sp_one (i := .iload 7) (by decide +kernel) rfl h
  have h := sp_onk (i := .iload_n 3) (by decide +kernel) rfl h
  rcases sp_icmp_ge (mi := 268) (pc := 49) (off := 56) (t := 105) (by decide +kernel) (by decide) rfl h with ⟨hc, h⟩ | ⟨hc, h⟩
  · refine ite_t hc ?_
    have h := sp_iconst (n := 1) (v := 1) (by decide +kernel) (by decide +kernel) h
    exact sp_iret (by decide +kernel) h
  · refine ite_f hc ?_
    have h := sp_onk (i := .aload_n 0) (by decide +kernel) rfl h
    have h := sp_onk (i := .iload_n 1) (by decide +kernel) rfl h
    have h := sp_onk (i := .aload_n 0) (by decide +kernel) rfl h
    have h := sp_getK (jj := 41) (ci := 12) (n := 21) (b := 158) (by decide +kernel) (by decide +kernel) (by decide +kernel) (by decide +kernel) (by decide) hS h
    have h := sp_onk (i := .iload 7) (by decide +kernel) rfl h
    obtain ⟨hi, h⟩ := sp_iald (by decide +kernel) h
    refine ⟨hi, ?_⟩
    obtain ⟨r1, w2, hc, h⟩ := sp_callV (jj := 166) (mj := 221) (n := 2) (v := .ref 147) (args := [.int (aG w 158 i7), .int i1]) (ls' := [.ref 147, .int i1, .int (aG w 158 i7)]) (by decide +kernel) (by decide +kernel) rfl rfl rfl h
    refine ⟨r1, w2, hc, fun x3 er hSw2 => ?_⟩
    subst er
    have h : PS X k 268 64 [.ref 147, .int i1, .int i2, .int i3, .int i4, .int i5, .int i6, .int i7] [.int x3] w2 r w' := h
    rcases sp_if_eq (mi := 268) (pc := 64) (off := 19) (t := 83) (by decide +kernel) (by decide) rfl h with ⟨hc, h⟩ | ⟨hc, h⟩
    · refine ite_t hc ?_
      have h := sp_iconst (n := 0) (v := 0) (by decide +kernel) (by decide +kernel) h
      exact sp_iret (by decide +kernel) h
    · refine ite_f hc ?_
      have h := sp_onk (i := .iload 6) (by decide +kernel) rfl h
      have h := sp_onk (i := .aload_n 0) (by decide +kernel) rfl h
      have h := sp_getK (jj := 41) (ci := 12) (n := 21) (b := 158) (by decide +kernel) (by decide +kernel) (by decide +kernel) (by decide +kernel) (by decide) hSw2 h
      have h := sp_onk (i := .iload 7) (by decide +kernel) rfl h
      obtain ⟨hi, h⟩ := sp_iald (by decide +kernel) h
      refine ⟨hi, ?_⟩
      have h := sp_onk (i := .ishr) (by decide +kernel) rfl h
      have h := sp_iconst (n := 1) (v := 1) (by decide +kernel) (by decide +kernel) h
      have h := sp_onk (i := .iand) (by decide +kernel) rfl h
      have h := sp_iconst (n := 1) (v := 1) (by decide +kernel) (by decide +kernel) h
      rcases sp_icmp_ne (mi := 268) (pc := 80) (off := 5) (t := 85) (by decide +kernel) (by decide) rfl h with ⟨hc, h⟩ | ⟨hc, h⟩
      · refine ite_f hc ?_
        have h := sp_onk (i := .iload 6) (by decide +kernel) rfl h
        have h := sp_iconst (n := 1) (v := 1) (by decide +kernel) (by decide +kernel) h
        have h := sp_onk (i := .aload_n 0) (by decide +kernel) rfl h
        have h := sp_getK (jj := 41) (ci := 12) (n := 21) (b := 158) (by decide +kernel) (by decide +kernel) (by decide +kernel) (by decide +kernel) (by decide) hSw2 h
        have h := sp_onk (i := .iload 7) (by decide +kernel) rfl h
        obtain ⟨hi, h⟩ := sp_iald (by decide +kernel) h
        refine ⟨hi, ?_⟩
        have h := sp_onk (i := .ishl) (by decide +kernel) rfl h
        have h := sp_onk (i := .ior) (by decide +kernel) rfl h
        have h := sp_istore (j := 6) (ls' := [.ref 147, .int i1, .int i2, .int i3, .int i4, .int i5, .int (i6 ||| (1 <<< (aG w2 158 i7 &&& 31))), .int i7]) (by decide +kernel) (Nat.le_of_ble_eq_true rfl) rfl h
        have h := sp_iinc (j := 7) (n := 1) (v := 1) (ls' := [.ref 147, .int i1, .int i2, .int i3, .int i4, .int i5, .int (i6 ||| (1 <<< (aG w2 158 i7 &&& 31))), .int (i7 + 1)]) (by decide +kernel) rfl (by decide +kernel) rfl h
        have h := sp_goto (mi := 268) (pc := 102) (off := (-56)) (t := 46) (by decide +kernel) (by decide) rfl h
        exact h
      · refine ite_t (Classical.not_not.mp hc) ?_
        have h := sp_iconst (n := 0) (v := 0) (by decide +kernel) (by decide +kernel) h
        exact sp_iret (by decide +kernel) h
set_option maxRecDepth 20000 in
set_option maxHeartbeats 2000000 in
theorem U270_0 {X : pm_X} {k : Nat} {w w' : pm_W} {r : Option Value} {p1 : Int32} {p2 : Int32} {p3 : Int32} (hS : SK w) (h : PS X (k + 1) 270 0 [.ref 147, .int p1, .int p2, .int p3, pm_dead, pm_dead] [] w r w') : PS X k 270 6 [.ref 147, .int p1, .int p2, .int p3, .int 0, .int 2] [] w r w' := by
  have h := sp_iconst1 (n := 0) (v := 0) (by decide +kernel) (by decide +kernel) h
  have h := sp_istore (j := 4) (ls' := [.ref 147, .int p1, .int p2, .int p3, .int 0, pm_dead]) (by decide +kernel) (Nat.le_of_ble_eq_true rfl) rfl h
  have h := sp_iconst (n := 2) (v := 2) (by decide +kernel) (by decide +kernel) h
  have h := sp_istore (j := 5) (ls' := [.ref 147, .int p1, .int p2, .int p3, .int 0, .int 2]) (by decide +kernel) (Nat.le_of_ble_eq_true rfl) rfl h
  exact h
set_option maxRecDepth 20000 in
set_option maxHeartbeats 2000000 in
theorem U270_6 {X : pm_X} {k : Nat} {w w' : pm_W} {r : Option Value} {i1 : Int32} {i2 : Int32} {i3 : Int32} {i4 : Int32} {i5 : Int32} (hS : SK w) (h : PS X (k + 1) 270 6 [.ref 147, .int i1, .int i2, .int i3, .int i4, .int i5] [] w r w') : if (gI w 147 24) ≤ i5 then (r = some (.int i4) ∧ w' = w) else (aI w 158 i5 ∧ (if (aG w 158 i5) = i2 then (PS X k 270 6 [.ref 147, .int i1, .int i2, .int i3, .int (i4 + i3), .int (i5 + 1)] [] w r w') else (aI w 158 i5 ∧ (aI w 148 ((i1 + 84) + (aG w 158 i5)) ∧ (PS X k 270 6 [.ref 147, .int i1, .int i2, .int i3, .int (i4 + (aG w 148 ((i1 + 84) + (aG w 158 i5)))), .int (i5 + 1)] [] w r w'))))) := by
  have h := sp_one (i := .iload 5) (by decide +kernel) rfl h
  have h := sp_onk (i := .aload_n 0) (by decide +kernel) rfl h
  have h := sp_getI (jj := 278) (ci := 12) (n := 24) (by decide +kernel) (by decide +kernel) (by decide +kernel) hS h
  rcases sp_icmp_ge (mi := 270) (pc := 12) (off := 46) (t := 58) (by decide +kernel) (by decide) rfl h with ⟨hc, h⟩ | ⟨hc, h⟩
  · refine ite_t hc ?_
    have h := sp_onk (i := .iload 4) (by decide +kernel) rfl h
    exact sp_iret (by decide +kernel) h
  · refine ite_f hc ?_
    have h := sp_onk (i := .iload 4) (by decide +kernel) rfl h
    have h := sp_onk (i := .aload_n 0) (by decide +kernel) rfl h
    have h := sp_getK (jj := 41) (ci := 12) (n := 21) (b := 158) (by decide +kernel) (by decide +kernel) (by decide +kernel) (by decide +kernel) (by decide) hS h
    have h := sp_onk (i := .iload 5) (by decide +kernel) rfl h
    obtain ⟨hi, h⟩ := sp_iald (by decide +kernel) h
    refine ⟨hi, ?_⟩
    have h := sp_onk (i := .iload_n 2) (by decide +kernel) rfl h
    rcases sp_icmp_ne (mi := 270) (pc := 25) (off := 7) (t := 32) (by decide +kernel) (by decide) rfl h with ⟨hc, h⟩ | ⟨hc, h⟩
    · refine ite_f hc ?_
      have h := sp_onk (i := .aload_n 0) (by decide +kernel) rfl h
      have h := sp_getK (jj := 7) (ci := 12) (n := 0) (b := 148) (by decide +kernel) (by decide +kernel) (by decide +kernel) (by decide +kernel) (by decide) hS h
      have h := sp_onk (i := .iload_n 1) (by decide +kernel) rfl h
      have h := sp_bipush (n := 84) (v := 84) (by decide +kernel) (by decide +kernel) h
      have h := sp_onk (i := .iadd) (by decide +kernel) rfl h
      have h := sp_onk (i := .aload_n 0) (by decide +kernel) rfl h
      have h := sp_getK (jj := 41) (ci := 12) (n := 21) (b := 158) (by decide +kernel) (by decide +kernel) (by decide +kernel) (by decide +kernel) (by decide) hS h
      have h := sp_onk (i := .iload 5) (by decide +kernel) rfl h
      obtain ⟨hi, h⟩ := sp_iald (by decide +kernel) h
      refine ⟨hi, ?_⟩
      have h := sp_onk (i := .iadd) (by decide +kernel) rfl h
      obtain ⟨hi, h⟩ := sp_iald (by decide +kernel) h
      refine ⟨hi, ?_⟩
      have h := sp_onk (i := .iadd) (by decide +kernel) rfl h
      have h := sp_istore (j := 4) (ls' := [.ref 147, .int i1, .int i2, .int i3, .int (i4 + (aG w 148 ((i1 + 84) + (aG w 158 i5)))), .int i5]) (by decide +kernel) (Nat.le_of_ble_eq_true rfl) rfl h
      have h := sp_iinc (j := 5) (n := 1) (v := 1) (ls' := [.ref 147, .int i1, .int i2, .int i3, .int (i4 + (aG w 148 ((i1 + 84) + (aG w 158 i5)))), .int (i5 + 1)]) (by decide +kernel) rfl (by decide +kernel) rfl h
      have h := sp_goto (mi := 270) (pc := 55) (off := (-49)) (t := 6) (by decide +kernel) (by decide) rfl h
      exact h
    · refine ite_t (Classical.not_not.mp hc) ?_
      have h := sp_onk (i := .iload_n 3) (by decide +kernel) rfl h
      have h := sp_goto (mi := 270) (pc := 29) (off := 20) (t := 49) (by decide +kernel) (by decide) rfl h
      have h := sp_onk (i := .iadd) (by decide +kernel) rfl h
      have h := sp_istore (j := 4) (ls' := [.ref 147, .int i1, .int i2, .int i3, .int (i4 + i3), .int i5]) (by decide +kernel) (Nat.le_of_ble_eq_true rfl) rfl h
      have h := sp_iinc (j := 5) (n := 1) (v := 1) (ls' := [.ref 147, .int i1, .int i2, .int i3, .int (i4 + i3), .int (i5 + 1)]) (by decide +kernel) rfl (by decide +kernel) rfl h
      have h := sp_goto (mi := 270) (pc := 55) (off := (-49)) (t := 6) (by decide +kernel) (by decide) rfl h
      exact h
set_option maxRecDepth 20000 in
set_option maxHeartbeats 2000000 in
theorem U271_0 {X : pm_X} {k : Nat} {w w' : pm_W} {r : Option Value} {p1 : Int32} {p2 : Int32} (hS : SK w) (h : PS X (k + 1) 271 0 [.ref 147, .int p1, .int p2, pm_dead, pm_dead, pm_dead] [] w r w') : PS X k 271 5 [.ref 147, .int p1, .int p2, .long 1, pm_dead, .int 0] [] w r w' := by
  have h := sp_lconst1 (n := 1) (v := 1) (by decide +kernel) (by decide +kernel) h
  have h := sp_lstore_n (j := 3) (ls' := [.ref 147, .int p1, .int p2, .long 1, pm_dead, pm_dead]) (by decide +kernel) (Nat.le_of_ble_eq_true rfl) rfl h
  have h := sp_iconst (n := 0) (v := 0) (by decide +kernel) (by decide +kernel) h
  have h := sp_istore (j := 5) (ls' := [.ref 147, .int p1, .int p2, .long 1, pm_dead, .int 0]) (by decide +kernel) (Nat.le_of_ble_eq_true rfl) rfl h
  exact h
set_option maxRecDepth 20000 in
set_option maxHeartbeats 2000000 in
theorem U271_5 {X : pm_X} {k : Nat} {w w' : pm_W} {r : Option Value} {i1 : Int32} {i2 : Int32} {l3 : Int64} {i5 : Int32} (hS : SK w) (h : PS X (k + 1) 271 5 [.ref 147, .int i1, .int i2, .long l3, pm_dead, .int i5] [] w r w') : if 6 ≤ i5 then (r = some (.long l3) ∧ w' = w) else (if i2 ≤ i5 then (PS X k 271 5 [.ref 147, .int i1, .int i2, .long (l3 * 100), pm_dead, .int (i5 + 1)] [] w r w') else (aI w 158 i5 ∧ (aI w 148 ((i1 + 93) + (aG w 158 i5)) ∧ (PS X k 271 5 [.ref 147, .int i1, .int i2, .long (l3 * ((100 - (aG w 148 ((i1 + 93) + (aG w 158 i5)))).toInt64)), pm_dead, .int (i5 + 1)] [] w r w')))) := by
  have h := sp_one (i := .iload 5) (by decide +kernel) rfl h
  have h := sp_bipush (n := 6) (v := 6) (by decide +kernel) (by decide +kernel) h
  rcases sp_icmp_ge (mi := 271) (pc := 9) (off := 45) (t := 54) (by decide +kernel) (by decide) rfl h with ⟨hc, h⟩ | ⟨hc, h⟩
  · refine ite_t hc ?_
    have h := sp_onk (i := .lload_n 3) (by decide +kernel) rfl h
    exact sp_lret (by decide +kernel) h
  · refine ite_f hc ?_
    have h := sp_onk (i := .lload_n 3) (by decide +kernel) rfl h
    have h := sp_onk (i := .iload 5) (by decide +kernel) rfl h
    have h := sp_onk (i := .iload_n 2) (by decide +kernel) rfl h
    rcases sp_icmp_ge (mi := 271) (pc := 16) (off := 27) (t := 43) (by decide +kernel) (by decide) rfl h with ⟨hc, h⟩ | ⟨hc, h⟩
    · refine ite_t hc ?_
      have h := sp_ldc2 (j := 281) (v := 100) (by decide +kernel) (by decide +kernel) h
      have h := sp_onk (i := .lmul) (by decide +kernel) rfl h
      have h := sp_lstore_n (j := 3) (ls' := [.ref 147, .int i1, .int i2, .long (l3 * 100), pm_dead, .int i5]) (by decide +kernel) (Nat.le_of_ble_eq_true rfl) rfl h
      have h := sp_iinc (j := 5) (n := 1) (v := 1) (ls' := [.ref 147, .int i1, .int i2, .long (l3 * 100), pm_dead, .int (i5 + 1)]) (by decide +kernel) rfl (by decide +kernel) rfl h
      have h := sp_goto (mi := 271) (pc := 51) (off := (-46)) (t := 5) (by decide +kernel) (by decide) rfl h
      exact h
    · refine ite_f hc ?_
      have h := sp_bipush (n := 100) (v := 100) (by decide +kernel) (by decide +kernel) h
      have h := sp_onk (i := .aload_n 0) (by decide +kernel) rfl h
      have h := sp_getK (jj := 7) (ci := 12) (n := 0) (b := 148) (by decide +kernel) (by decide +kernel) (by decide +kernel) (by decide +kernel) (by decide) hS h
      have h := sp_onk (i := .iload_n 1) (by decide +kernel) rfl h
      have h := sp_bipush (n := 93) (v := 93) (by decide +kernel) (by decide +kernel) h
      have h := sp_onk (i := .iadd) (by decide +kernel) rfl h
      have h := sp_onk (i := .aload_n 0) (by decide +kernel) rfl h
      have h := sp_getK (jj := 41) (ci := 12) (n := 21) (b := 158) (by decide +kernel) (by decide +kernel) (by decide +kernel) (by decide +kernel) (by decide) hS h
      have h := sp_onk (i := .iload 5) (by decide +kernel) rfl h
      obtain ⟨hi, h⟩ := sp_iald (by decide +kernel) h
      refine ⟨hi, ?_⟩
      have h := sp_onk (i := .iadd) (by decide +kernel) rfl h
      obtain ⟨hi, h⟩ := sp_iald (by decide +kernel) h
      refine ⟨hi, ?_⟩
      have h := sp_onk (i := .isub) (by decide +kernel) rfl h
      have h := sp_onk (i := .i2l) (by decide +kernel) rfl h
      have h := sp_goto (mi := 271) (pc := 40) (off := 6) (t := 46) (by decide +kernel) (by decide) rfl h
      have h := sp_onk (i := .lmul) (by decide +kernel) rfl h
      have h := sp_lstore_n (j := 3) (ls' := [.ref 147, .int i1, .int i2, .long (l3 * ((100 - (aG w 148 ((i1 + 93) + (aG w 158 i5)))).toInt64)), pm_dead, .int i5]) (by decide +kernel) (Nat.le_of_ble_eq_true rfl) rfl h
      have h := sp_iinc (j := 5) (n := 1) (v := 1) (ls' := [.ref 147, .int i1, .int i2, .long (l3 * ((100 - (aG w 148 ((i1 + 93) + (aG w 158 i5)))).toInt64)), pm_dead, .int (i5 + 1)]) (by decide +kernel) rfl (by decide +kernel) rfl h
      have h := sp_goto (mi := 271) (pc := 51) (off := (-46)) (t := 5) (by decide +kernel) (by decide) rfl h
      exact h
set_option maxRecDepth 20000 in
set_option maxHeartbeats 2000000 in
theorem U272_0 {X : pm_X} {k : Nat} {w w' : pm_W} {r : Option Value} {p1 : Int32} {p2 : Int32} {p3 : Int32} {p4 : Int32} {p5 : Int32} {p6 : Int32} (hS : SK w) (h : PS X (k + 1) 272 0 [.ref 147, .int p1, .int p2, .int p3, .int p4, .int p5, .int p6, pm_dead, pm_dead, pm_dead] [] w r w') : ∃ (r1 : Option Value) (w2 : pm_W), PS X k 199 0 [.int p5, .int 0, .int 2] [] w r1 w2 ∧ (∀ x3 : Int32, r1 = some (.int x3) → SK w2 → (if x3 = 0 then (r = some (.long (-1)) ∧ w' = w2) else (∃ (r4 : Option Value) (w5 : pm_W), PS X k 265 0 [.ref 147, .int p1, .int p2, .int p3, .int p4] [] w2 r4 w5 ∧ (∀ x6 : Int32, r4 = some (.int x6) → SK w5 → (if x6 = 0 then (r = some (.long (-1)) ∧ w' = w5) else (∃ (r7 : Option Value) (w8 : pm_W), PS X k 217 0 [.int 0, .int p1] [] w5 r7 w8 ∧ (∀ x9 : Int32, r7 = some (.int x9) → SK w8 → (∃ (r10 : Option Value) (w11 : pm_W), PS X k 266 0 [.ref 147, .int x9, .int p4, .int p5, .int (-1), .int 0, pm_dead, pm_dead, pm_dead, pm_dead, pm_dead, pm_dead, pm_dead] [] w8 r10 w11 ∧ (∀ x12 : Int32, r10 = some (.int x12) → SK w11 → (if x12 = 0 then (r = some (.long (-1)) ∧ w' = w11) else (PS X k 272 50 [.ref 147, .int p1, .int p2, .int p3, .int p4, .int p5, .int p6, .long 1, pm_dead, .int 0] [] w11 r w'))))))))))) := by
  have h := sp_one (i := .iload 5) (by decide +kernel) rfl h
  have h := sp_iconst (n := 0) (v := 0) (by decide +kernel) (by decide +kernel) h
  have h := sp_iconst (n := 2) (v := 2) (by decide +kernel) (by decide +kernel) h
  obtain ⟨r1, w2, hc, h⟩ := sp_callS (jj := 119) (mj := 199) (n := 3) (args := [.int 2, .int 0, .int p5]) (ls' := [.int p5, .int 0, .int 2]) (by decide +kernel) (by decide +kernel) (by decide +kernel) rfl rfl rfl h
  refine ⟨r1, w2, hc, fun x3 er hSw2 => ?_⟩
  subst er
  have h : PS X k 272 7 [.ref 147, .int p1, .int p2, .int p3, .int p4, .int p5, .int p6, pm_dead, pm_dead, pm_dead] [.int x3] w2 r w' := h
  rcases sp_if_eq (mi := 272) (pc := 7) (off := 33) (t := 40) (by decide +kernel) (by decide) rfl h with ⟨hc, h⟩ | ⟨hc, h⟩
  · refine ite_t hc ?_
    have h := sp_ldc2 (j := 309) (v := (-1)) (by decide +kernel) (by decide +kernel) h
    exact sp_lret (by decide +kernel) h
  · refine ite_f hc ?_
    have h := sp_onk (i := .aload_n 0) (by decide +kernel) rfl h
    have h := sp_onk (i := .iload_n 1) (by decide +kernel) rfl h
    have h := sp_onk (i := .iload_n 2) (by decide +kernel) rfl h
    have h := sp_onk (i := .iload_n 3) (by decide +kernel) rfl h
    have h := sp_onk (i := .iload 4) (by decide +kernel) rfl h
    obtain ⟨r4, w5, hc, h⟩ := sp_callV (jj := 303) (mj := 265) (n := 4) (v := .ref 147) (args := [.int p4, .int p3, .int p2, .int p1]) (ls' := [.ref 147, .int p1, .int p2, .int p3, .int p4]) (by decide +kernel) (by decide +kernel) rfl rfl rfl h
    refine ⟨r4, w5, hc, fun x6 er hSw5 => ?_⟩
    subst er
    have h : PS X k 272 19 [.ref 147, .int p1, .int p2, .int p3, .int p4, .int p5, .int p6, pm_dead, pm_dead, pm_dead] [.int x6] w5 r w' := h
    rcases sp_if_eq (mi := 272) (pc := 19) (off := 21) (t := 40) (by decide +kernel) (by decide) rfl h with ⟨hc, h⟩ | ⟨hc, h⟩
    · refine ite_t hc ?_
      have h := sp_ldc2 (j := 309) (v := (-1)) (by decide +kernel) (by decide +kernel) h
      exact sp_lret (by decide +kernel) h
    · refine ite_f hc ?_
      have h := sp_onk (i := .aload_n 0) (by decide +kernel) rfl h
      have h := sp_iconst (n := 0) (v := 0) (by decide +kernel) (by decide +kernel) h
      have h := sp_onk (i := .iload_n 1) (by decide +kernel) rfl h
      obtain ⟨r7, w8, hc, h⟩ := sp_callS (jj := 163) (mj := 217) (n := 2) (args := [.int p1, .int 0]) (ls' := [.int 0, .int p1]) (by decide +kernel) (by decide +kernel) (by decide +kernel) rfl rfl rfl h
      refine ⟨r7, w8, hc, fun x9 er hSw8 => ?_⟩
      subst er
      have h : PS X k 272 28 [.ref 147, .int p1, .int p2, .int p3, .int p4, .int p5, .int p6, pm_dead, pm_dead, pm_dead] [.int x9, .ref 147] w8 r w' := h
      have h := sp_onk (i := .iload 4) (by decide +kernel) rfl h
      have h := sp_onk (i := .iload 5) (by decide +kernel) rfl h
      have h := sp_iconst (n := (-1)) (v := (-1)) (by decide +kernel) (by decide +kernel) h
      have h := sp_iconst (n := 0) (v := 0) (by decide +kernel) (by decide +kernel) h
      obtain ⟨r10, w11, hc, h⟩ := sp_callV (jj := 306) (mj := 266) (n := 5) (v := .ref 147) (args := [.int 0, .int (-1), .int p5, .int p4, .int x9]) (ls' := [.ref 147, .int x9, .int p4, .int p5, .int (-1), .int 0, pm_dead, pm_dead, pm_dead, pm_dead, pm_dead, pm_dead, pm_dead]) (by decide +kernel) (by decide +kernel) rfl rfl rfl h
      refine ⟨r10, w11, hc, fun x12 er hSw11 => ?_⟩
      subst er
      have h : PS X k 272 37 [.ref 147, .int p1, .int p2, .int p3, .int p4, .int p5, .int p6, pm_dead, pm_dead, pm_dead] [.int x12] w11 r w' := h
      rcases sp_if_ne (mi := 272) (pc := 37) (off := 7) (t := 44) (by decide +kernel) (by decide) rfl h with ⟨hc, h⟩ | ⟨hc, h⟩
      · refine ite_f hc ?_
        have h := sp_lconst (n := 1) (v := 1) (by decide +kernel) (by decide +kernel) h
        have h := sp_lstore (j := 7) (ls' := [.ref 147, .int p1, .int p2, .int p3, .int p4, .int p5, .int p6, .long 1, pm_dead, pm_dead]) (by decide +kernel) (Nat.le_of_ble_eq_true rfl) rfl h
        have h := sp_iconst (n := 0) (v := 0) (by decide +kernel) (by decide +kernel) h
        have h := sp_istore (j := 9) (ls' := [.ref 147, .int p1, .int p2, .int p3, .int p4, .int p5, .int p6, .long 1, pm_dead, .int 0]) (by decide +kernel) (Nat.le_of_ble_eq_true rfl) rfl h
        exact h
      · refine ite_t (Classical.not_not.mp hc) ?_
        have h := sp_ldc2 (j := 309) (v := (-1)) (by decide +kernel) (by decide +kernel) h
        exact sp_lret (by decide +kernel) h
set_option maxRecDepth 20000 in
set_option maxHeartbeats 2000000 in
theorem U272_50 {X : pm_X} {k : Nat} {w w' : pm_W} {r : Option Value} {i1 : Int32} {i2 : Int32} {i3 : Int32} {i4 : Int32} {i5 : Int32} {i6 : Int32} {l7 : Int64} {i9 : Int32} (hS : SK w) (h : PS X (k + 1) 272 50 [.ref 147, .int i1, .int i2, .int i3, .int i4, .int i5, .int i6, .long l7, pm_dead, .int i9] [] w r w') : if (gI w 147 23) ≤ i9 then (r = some (.long l7) ∧ w' = w) else (if i6 = 0 then (∃ (r1 : Option Value) (w2 : pm_W), PS X k 217 0 [.int 0, .int i1] [] w r1 w2 ∧ (∀ x3 : Int32, r1 = some (.int x3) → SK w2 → (aI w2 159 i9 ∧ (aI w2 148 ((x3 + 93) + (aG w2 159 i9)) ∧ (PS X k 272 50 [.ref 147, .int i1, .int i2, .int i3, .int i4, .int i5, .int i6, .long (l7 * ((100 - (aG w2 148 ((x3 + 93) + (aG w2 159 i9)))).toInt64)), pm_dead, .int (i9 + 1)] [] w2 r w'))))) else (PS X k 272 50 [.ref 147, .int i1, .int i2, .int i3, .int i4, .int i5, .int i6, .long (l7 * 100), pm_dead, .int (i9 + 1)] [] w r w')) := by
  have h := sp_one (i := .iload 9) (by decide +kernel) rfl h
  have h := sp_onk (i := .aload_n 0) (by decide +kernel) rfl h
  have h := sp_getI (jj := 283) (ci := 12) (n := 23) (by decide +kernel) (by decide +kernel) (by decide +kernel) hS h
  rcases sp_icmp_ge (mi := 272) (pc := 56) (off := 50) (t := 106) (by decide +kernel) (by decide) rfl h with ⟨hc, h⟩ | ⟨hc, h⟩
  · refine ite_t hc ?_
    have h := sp_onk (i := .lload 7) (by decide +kernel) rfl h
    exact sp_lret (by decide +kernel) h
  · refine ite_f hc ?_
    have h := sp_onk (i := .lload 7) (by decide +kernel) rfl h
    have h := sp_onk (i := .iload 6) (by decide +kernel) rfl h
    rcases sp_if_eq (mi := 272) (pc := 63) (off := 9) (t := 72) (by decide +kernel) (by decide) rfl h with ⟨hc, h⟩ | ⟨hc, h⟩
    · refine ite_t hc ?_
      have h := sp_bipush (n := 100) (v := 100) (by decide +kernel) (by decide +kernel) h
      have h := sp_onk (i := .aload_n 0) (by decide +kernel) rfl h
      have h := sp_getK (jj := 7) (ci := 12) (n := 0) (b := 148) (by decide +kernel) (by decide +kernel) (by decide +kernel) (by decide +kernel) (by decide) hS h
      have h := sp_iconst (n := 0) (v := 0) (by decide +kernel) (by decide +kernel) h
      have h := sp_onk (i := .iload_n 1) (by decide +kernel) rfl h
      obtain ⟨r1, w2, hc, h⟩ := sp_callS (jj := 163) (mj := 217) (n := 2) (args := [.int i1, .int 0]) (ls' := [.int 0, .int i1]) (by decide +kernel) (by decide +kernel) (by decide +kernel) rfl rfl rfl h
      refine ⟨r1, w2, hc, fun x3 er hSw2 => ?_⟩
      subst er
      have h : PS X k 272 83 [.ref 147, .int i1, .int i2, .int i3, .int i4, .int i5, .int i6, .long l7, pm_dead, .int i9] [.int x3, .ref 148, .int 100, .long l7] w2 r w' := h
      have h := sp_bipush (n := 93) (v := 93) (by decide +kernel) (by decide +kernel) h
      have h := sp_onk (i := .iadd) (by decide +kernel) rfl h
      have h := sp_onk (i := .aload_n 0) (by decide +kernel) rfl h
      have h := sp_getK (jj := 44) (ci := 12) (n := 22) (b := 159) (by decide +kernel) (by decide +kernel) (by decide +kernel) (by decide +kernel) (by decide) hSw2 h
      have h := sp_onk (i := .iload 9) (by decide +kernel) rfl h
      obtain ⟨hi, h⟩ := sp_iald (by decide +kernel) h
      refine ⟨hi, ?_⟩
      have h := sp_onk (i := .iadd) (by decide +kernel) rfl h
      obtain ⟨hi, h⟩ := sp_iald (by decide +kernel) h
      refine ⟨hi, ?_⟩
      have h := sp_onk (i := .isub) (by decide +kernel) rfl h
      have h := sp_onk (i := .i2l) (by decide +kernel) rfl h
      have h := sp_onk (i := .lmul) (by decide +kernel) rfl h
      have h := sp_lstore (j := 7) (ls' := [.ref 147, .int i1, .int i2, .int i3, .int i4, .int i5, .int i6, .long (l7 * ((100 - (aG w2 148 ((x3 + 93) + (aG w2 159 i9)))).toInt64)), pm_dead, .int i9]) (by decide +kernel) (Nat.le_of_ble_eq_true rfl) rfl h
      have h := sp_iinc (j := 9) (n := 1) (v := 1) (ls' := [.ref 147, .int i1, .int i2, .int i3, .int i4, .int i5, .int i6, .long (l7 * ((100 - (aG w2 148 ((x3 + 93) + (aG w2 159 i9)))).toInt64)), pm_dead, .int (i9 + 1)]) (by decide +kernel) rfl (by decide +kernel) rfl h
      have h := sp_goto (mi := 272) (pc := 103) (off := (-53)) (t := 50) (by decide +kernel) (by decide) rfl h
      exact h
    · refine ite_f hc ?_
      have h := sp_ldc2 (j := 281) (v := 100) (by decide +kernel) (by decide +kernel) h
      have h := sp_goto (mi := 272) (pc := 69) (off := 28) (t := 97) (by decide +kernel) (by decide) rfl h
      have h := sp_onk (i := .lmul) (by decide +kernel) rfl h
      have h := sp_lstore (j := 7) (ls' := [.ref 147, .int i1, .int i2, .int i3, .int i4, .int i5, .int i6, .long (l7 * 100), pm_dead, .int i9]) (by decide +kernel) (Nat.le_of_ble_eq_true rfl) rfl h
      have h := sp_iinc (j := 9) (n := 1) (v := 1) (ls' := [.ref 147, .int i1, .int i2, .int i3, .int i4, .int i5, .int i6, .long (l7 * 100), pm_dead, .int (i9 + 1)]) (by decide +kernel) rfl (by decide +kernel) rfl h
      have h := sp_goto (mi := 272) (pc := 103) (off := (-53)) (t := 50) (by decide +kernel) (by decide) rfl h
      exact h
end
section
/-! ===== what pieces of methods leave (printed by us.py) ===== -/
set_option maxRecDepth 20000 in
set_option maxHeartbeats 2000000 in
theorem U131_0 {X : pm_X} {k : Nat} {w w' : pm_W} {r : Option Value} {p1 : Int32} {p2 : Int32} {p3 : Int32} {p4 : Int32} {p5 : Int32} (hS : SK w) (h : PS X (k + 1) 131 0 [.ref 0, .int p1, .int p2, .int p3, .int p4, .int p5] [] w r w') : ∃ (r1 : Option Value) (w2 : pm_W), PS X k 132 0 [.int p5] [] w r1 w2 ∧ (∀ x3 : Int32, r1 = some (.int x3) → SK w2 → (if x3 = 0 then (r = some (.int 0) ∧ w' = w2) else (∃ (r4 : Option Value) (w5 : pm_W), PS X k 98 0 [.ref 0, .int p1, .int p2, .int p3, pm_dead, pm_dead, pm_dead] [] w2 r4 w5 ∧ (∀ x6 : Int32, r4 = some (.int x6) → SK w5 → (if x6 = 0 then (r = some (.int 0) ∧ w' = w5) else (∃ (r7 : Option Value) (w8 : pm_W), PS X k 64 0 [.ref (gR w5 33 0), .int p4] [] w5 r7 w8 ∧ (∀ x9 : Int32, r7 = some (.int x9) → SK w8 → (if x9 = 0 then (r = some (.int 0) ∧ w' = w8) else (∃ (r10 : Option Value) (w11 : pm_W), PS X k 133 0 [.ref 55, .ref 33, .int p4, .int p5] [] w8 r10 w11 ∧ (∀ x12 : Int32, r10 = some (.int x12) → SK w11 → (r = some (.int x12) ∧ w' = w11))))))))))) := by
  have h := sp_one (i := .iload 5) (by decide +kernel) rfl h
  obtain ⟨r1, w2, hc, h⟩ := sp_callS (jj := 317) (mj := 132) (n := 1) (args := [.int p5]) (ls' := [.int p5]) (by decide +kernel) (by decide +kernel) (by decide +kernel) rfl rfl rfl h
  refine ⟨r1, w2, hc, fun x3 er hSw2 => ?_⟩
  subst er
  have h : PS X k 131 5 [.ref 0, .int p1, .int p2, .int p3, .int p4, .int p5] [.int x3] w2 r w' := h
  rcases sp_if_eq (mi := 131) (pc := 5) (off := 28) (t := 33) (by decide +kernel) (by decide) rfl h with ⟨hc, h⟩ | ⟨hc, h⟩
  · refine ite_t hc ?_
    have h := sp_iconst (n := 0) (v := 0) (by decide +kernel) (by decide +kernel) h
    exact sp_iret (by decide +kernel) h
  · refine ite_f hc ?_
    have h := sp_onk (i := .aload_n 0) (by decide +kernel) rfl h
    have h := sp_onk (i := .iload_n 1) (by decide +kernel) rfl h
    have h := sp_onk (i := .iload_n 2) (by decide +kernel) rfl h
    have h := sp_onk (i := .iload_n 3) (by decide +kernel) rfl h
    obtain ⟨r4, w5, hc, h⟩ := sp_callV (jj := 201) (mj := 98) (n := 3) (v := .ref 0) (args := [.int p3, .int p2, .int p1]) (ls' := [.ref 0, .int p1, .int p2, .int p3, pm_dead, pm_dead, pm_dead]) (by decide +kernel) (by decide +kernel) rfl rfl rfl h
    refine ⟨r4, w5, hc, fun x6 er hSw5 => ?_⟩
    subst er
    have h : PS X k 131 15 [.ref 0, .int p1, .int p2, .int p3, .int p4, .int p5] [.int x6] w5 r w' := h
    rcases sp_if_eq (mi := 131) (pc := 15) (off := 18) (t := 33) (by decide +kernel) (by decide) rfl h with ⟨hc, h⟩ | ⟨hc, h⟩
    · refine ite_t hc ?_
      have h := sp_iconst (n := 0) (v := 0) (by decide +kernel) (by decide +kernel) h
      exact sp_iret (by decide +kernel) h
    · refine ite_f hc ?_
      have h := sp_onk (i := .aload_n 0) (by decide +kernel) rfl h
      have h := sp_getK (jj := 34) (ci := 11) (n := 4) (b := 33) (by decide +kernel) (by decide +kernel) (by decide +kernel) (by decide +kernel) (by decide) hSw5 h
      have h := sp_getR (jj := 287) (ci := 7) (n := 0) (by decide +kernel) (by decide +kernel) (by decide +kernel) hSw5 h
      have h := sp_onk (i := .iload 4) (by decide +kernel) rfl h
      obtain ⟨r7, w8, hc, h⟩ := sp_callV (jj := 142) (mj := 64) (n := 1) (v := .ref (gR w5 33 0)) (args := [.int p4]) (ls' := [.ref (gR w5 33 0), .int p4]) (by decide +kernel) (by decide +kernel) rfl rfl rfl h
      refine ⟨r7, w8, hc, fun x9 er hSw8 => ?_⟩
      subst er
      have h : PS X k 131 30 [.ref 0, .int p1, .int p2, .int p3, .int p4, .int p5] [.int x9] w8 r w' := h
      rcases sp_if_ne (mi := 131) (pc := 30) (off := 5) (t := 35) (by decide +kernel) (by decide) rfl h with ⟨hc, h⟩ | ⟨hc, h⟩
      · refine ite_f hc ?_
        have h := sp_onk (i := .aload_n 0) (by decide +kernel) rfl h
        have h := sp_getK (jj := 48) (ci := 11) (n := 6) (b := 55) (by decide +kernel) (by decide +kernel) (by decide +kernel) (by decide +kernel) (by decide) hSw8 h
        have h := sp_onk (i := .aload_n 0) (by decide +kernel) rfl h
        have h := sp_getK (jj := 34) (ci := 11) (n := 4) (b := 33) (by decide +kernel) (by decide +kernel) (by decide +kernel) (by decide +kernel) (by decide) hSw8 h
        have h := sp_onk (i := .iload 4) (by decide +kernel) rfl h
        have h := sp_onk (i := .iload 5) (by decide +kernel) rfl h
        obtain ⟨r10, w11, hc, h⟩ := sp_callV (jj := 385) (mj := 133) (n := 3) (v := .ref 55) (args := [.int p5, .int p4, .ref 33]) (ls' := [.ref 55, .ref 33, .int p4, .int p5]) (by decide +kernel) (by decide +kernel) rfl rfl rfl h
        refine ⟨r10, w11, hc, fun x12 er hSw11 => ?_⟩
        subst er
        have h : PS X k 131 50 [.ref 0, .int p1, .int p2, .int p3, .int p4, .int p5] [.int x12] w11 r w' := h
        exact sp_iret (by decide +kernel) h
      · refine ite_t (Classical.not_not.mp hc) ?_
        have h := sp_iconst (n := 0) (v := 0) (by decide +kernel) (by decide +kernel) h
        exact sp_iret (by decide +kernel) h
set_option maxRecDepth 20000 in
set_option maxHeartbeats 2000000 in
theorem U132_0 {X : pm_X} {k : Nat} {w w' : pm_W} {r : Option Value} {p1 : Int32} (hS : SK w) (h : PS X (k + 1) 132 0 [.int p1] [] w r w') : if p1 = 0 then (r = some (.int 1) ∧ w' = w) else (if p1 = 1 then (r = some (.int 1) ∧ w' = w) else (if p1 = 2 then (r = some (.int 1) ∧ w' = w) else (r = some (.int 0) ∧ w' = w))) := by
  have h := sp_one (i := .iload_n 0) (by decide +kernel) rfl h
  rcases sp_if_eq (mi := 132) (pc := 1) (off := 13) (t := 14) (by decide +kernel) (by decide) rfl h with ⟨hc, h⟩ | ⟨hc, h⟩
  · refine ite_t hc ?_
    have h := sp_iconst (n := 1) (v := 1) (by decide +kernel) (by decide +kernel) h
    have h := sp_goto (mi := 132) (pc := 15) (off := 4) (t := 19) (by decide +kernel) (by decide) rfl h
    exact sp_iret (by decide +kernel) h
  · refine ite_f hc ?_
    have h := sp_onk (i := .iload_n 0) (by decide +kernel) rfl h
    have h := sp_iconst (n := 1) (v := 1) (by decide +kernel) (by decide +kernel) h
    rcases sp_icmp_eq (mi := 132) (pc := 6) (off := 8) (t := 14) (by decide +kernel) (by decide) rfl h with ⟨hc, h⟩ | ⟨hc, h⟩
    · refine ite_t hc ?_
      have h := sp_iconst (n := 1) (v := 1) (by decide +kernel) (by decide +kernel) h
      have h := sp_goto (mi := 132) (pc := 15) (off := 4) (t := 19) (by decide +kernel) (by decide) rfl h
      exact sp_iret (by decide +kernel) h
    · refine ite_f hc ?_
      have h := sp_onk (i := .iload_n 0) (by decide +kernel) rfl h
      have h := sp_iconst (n := 2) (v := 2) (by decide +kernel) (by decide +kernel) h
      rcases sp_icmp_ne (mi := 132) (pc := 11) (off := 7) (t := 18) (by decide +kernel) (by decide) rfl h with ⟨hc, h⟩ | ⟨hc, h⟩
      · refine ite_f hc ?_
        have h := sp_iconst (n := 0) (v := 0) (by decide +kernel) (by decide +kernel) h
        exact sp_iret (by decide +kernel) h
      · refine ite_t (Classical.not_not.mp hc) ?_
        have h := sp_iconst (n := 1) (v := 1) (by decide +kernel) (by decide +kernel) h
        have h := sp_goto (mi := 132) (pc := 15) (off := 4) (t := 19) (by decide +kernel) (by decide) rfl h
        exact sp_iret (by decide +kernel) h
end
