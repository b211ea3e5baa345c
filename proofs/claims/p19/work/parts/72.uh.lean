/-! ===== what pieces of methods leave (printed by us.py) ===== -/
set_option maxRecDepth 20000 in
set_option maxHeartbeats 2000000 in
theorem U159_0 {X : pm_X} {k : Nat} {w w' : pm_W} {r : Option Value} {q1 : Nat} (hS : SK w) (h : PS X (k + 1) 159 0 [.ref 68, .ref q1, pm_dead, pm_dead] [] w r w') : ∃ (r1 : Option Value) (w2 : pm_W), PS X k 160 0 [.ref 68, .ref (gR w q1 0), pm_dead, pm_dead] [] w r1 w2 ∧ (r1 = none → SK w2 → (PS X k 159 10 [.ref 68, .ref q1, .int 0, pm_dead] [] w2 r w')) := by
  have h := sp_one (i := .aload_n 0) (by decide +kernel) rfl h
  have h := sp_onk (i := .aload_n 1) (by decide +kernel) rfl h
  have h := sp_getR (jj := 42) (ci := 7) (n := 0) (by decide +kernel) (by decide +kernel) (by decide +kernel) hS h
  obtain ⟨r1, w2, hc, h⟩ := sp_callV (jj := 45) (mj := 160) (n := 1) (v := .ref 68) (args := [.ref (gR w q1 0)]) (ls' := [.ref 68, .ref (gR w q1 0), pm_dead, pm_dead]) (by decide +kernel) (by decide +kernel) rfl rfl rfl h
  refine ⟨r1, w2, hc, fun er hSw2 => ?_⟩
  subst er
  have h : PS X k 159 8 [.ref 68, .ref q1, pm_dead, pm_dead] [] w2 r w' := h
  have h := sp_iconst (n := 0) (v := 0) (by decide +kernel) (by decide +kernel) h
  have h := sp_istore_n (j := 2) (ls' := [.ref 68, .ref q1, .int 0, pm_dead]) (by decide +kernel) (Nat.le_of_ble_eq_true rfl) rfl h
  exact h
set_option maxRecDepth 20000 in
set_option maxHeartbeats 2000000 in
theorem U159_10 {X : pm_X} {k : Nat} {w w' : pm_W} {r : Option Value} {o1 : Nat} {i2 : Int32} {u3 : Value} (hS : SK w) (h : PS X (k + 1) 159 10 [.ref 68, .ref o1, .int i2, u3] [] w r w') : if (gI w (gR w 68 0) 0) ≤ i2 then (r = none ∧ w' = w) else (PS X k 159 23 [.ref 68, .ref o1, .int i2, .int 0] [] w r w') := by
  have h := sp_one (i := .iload_n 2) (by decide +kernel) rfl h
  have h := sp_onk (i := .aload_n 0) (by decide +kernel) rfl h
  have h := sp_getR (jj := 12) (ci := 10) (n := 0) (by decide +kernel) (by decide +kernel) (by decide +kernel) hS h
  have h := sp_getI (jj := 49) (ci := 9) (n := 0) (by decide +kernel) (by decide +kernel) (by decide +kernel) hS h
  rcases sp_icmp_ge (mi := 159) (pc := 18) (off := 44) (t := 62) (by decide +kernel) (by decide) rfl h with ⟨hc, h⟩ | ⟨hc, h⟩
  · refine ite_t hc ?_
    exact sp_vret (by decide +kernel) h
  · refine ite_f hc ?_
    have h := sp_iconst (n := 0) (v := 0) (by decide +kernel) (by decide +kernel) h
    have h := sp_istore_n (j := 3) (ls' := [.ref 68, .ref o1, .int i2, .int 0]) (by decide +kernel) (Nat.le_of_ble_eq_true rfl) rfl h
    exact h
set_option maxRecDepth 20000 in
set_option maxHeartbeats 2000000 in
theorem U159_23 {X : pm_X} {k : Nat} {w w' : pm_W} {r : Option Value} {o1 : Nat} {i2 : Int32} {i3 : Int32} (hS : SK w) (h : PS X (k + 1) 159 23 [.ref 68, .ref o1, .int i2, .int i3] [] w r w') : if (gI w (gR w 68 0) 0) ≤ i3 then (PS X k 159 10 [.ref 68, .ref o1, .int (i2 + 1), .int i3] [] w r w') else (∃ (r1 : Option Value) (w2 : pm_W), PS X k 52 0 [.int i2, .int i3] [] w r1 w2 ∧ (∀ x3 : Int32, r1 = some (.int x3) → SK w2 → (∃ (r4 : Option Value) (w5 : pm_W), PS X k 77 0 [.ref o1, .int i2, .int i3] [] w2 r4 w5 ∧ (∀ x6 : Int32, r4 = some (.int x6) → SK w5 → (aI w5 74 x3 ∧ (∀ w7 : pm_W, w7 = aS w5 74 x3 x6 → (PS X k 159 23 [.ref 68, .ref o1, .int i2, .int (i3 + 1)] [] w7 r w'))))))) := by
  have h := sp_one (i := .iload_n 3) (by decide +kernel) rfl h
  have h := sp_onk (i := .aload_n 0) (by decide +kernel) rfl h
  have h := sp_getR (jj := 12) (ci := 10) (n := 0) (by decide +kernel) (by decide +kernel) (by decide +kernel) hS h
  have h := sp_getI (jj := 49) (ci := 9) (n := 0) (by decide +kernel) (by decide +kernel) (by decide +kernel) hS h
  rcases sp_icmp_ge (mi := 159) (pc := 31) (off := 25) (t := 56) (by decide +kernel) (by decide) rfl h with ⟨hc, h⟩ | ⟨hc, h⟩
  · refine ite_t hc ?_
    have h := sp_iinc (j := 2) (n := 1) (v := 1) (ls' := [.ref 68, .ref o1, .int (i2 + 1), .int i3]) (by decide +kernel) rfl (by decide +kernel) rfl h
    have h := sp_goto (mi := 159) (pc := 59) (off := (-49)) (t := 10) (by decide +kernel) (by decide) rfl h
    exact h
  · refine ite_f hc ?_
    have h := sp_onk (i := .aload_n 0) (by decide +kernel) rfl h
    have h := sp_getK (jj := 18) (ci := 10) (n := 1) (b := 74) (by decide +kernel) (by decide +kernel) (by decide +kernel) (by decide +kernel) (by decide) hS h
    have h := sp_onk (i := .iload_n 2) (by decide +kernel) rfl h
    have h := sp_onk (i := .iload_n 3) (by decide +kernel) rfl h
    obtain ⟨r1, w2, hc, h⟩ := sp_callS (jj := 53) (mj := 52) (n := 2) (args := [.int i3, .int i2]) (ls' := [.int i2, .int i3]) (by decide +kernel) (by decide +kernel) (by decide +kernel) rfl rfl rfl h
    refine ⟨r1, w2, hc, fun x3 er hSw2 => ?_⟩
    subst er
    have h : PS X k 159 43 [.ref 68, .ref o1, .int i2, .int i3] [.int x3, .ref 74] w2 r w' := h
    have h := sp_onk (i := .aload_n 1) (by decide +kernel) rfl h
    have h := sp_onk (i := .iload_n 2) (by decide +kernel) rfl h
    have h := sp_onk (i := .iload_n 3) (by decide +kernel) rfl h
    obtain ⟨r4, w5, hc, h⟩ := sp_callV (jj := 57) (mj := 77) (n := 2) (v := .ref o1) (args := [.int i3, .int i2]) (ls' := [.ref o1, .int i2, .int i3]) (by decide +kernel) (by decide +kernel) rfl rfl rfl h
    refine ⟨r4, w5, hc, fun x6 er hSw5 => ?_⟩
    subst er
    have h : PS X k 159 49 [.ref 68, .ref o1, .int i2, .int i3] [.int x6, .int x3, .ref 74] w5 r w' := h
    obtain ⟨hi, h⟩ := sp_iast (by decide +kernel) h
    refine ⟨hi, ?_⟩
    intro w7 ew7
    rw [← ew7] at h
    have hSw7 : SK w7 := by rw [ew7]; exact SK_aS hSw5
    have h := sp_iinc (j := 3) (n := 1) (v := 1) (ls' := [.ref 68, .ref o1, .int i2, .int (i3 + 1)]) (by decide +kernel) rfl (by decide +kernel) rfl h
    have h := sp_goto (mi := 159) (pc := 53) (off := (-30)) (t := 23) (by decide +kernel) (by decide) rfl h
    exact h
set_option maxRecDepth 20000 in
set_option maxHeartbeats 2000000 in
theorem U160_0 {X : pm_X} {k : Nat} {w w' : pm_W} {r : Option Value} {q1 : Nat} (hS : SK w) (h : PS X (k + 1) 160 0 [.ref 68, .ref q1, pm_dead, pm_dead] [] w r w') : ∀ w1 : pm_W, w1 = sR w 68 0 q1 → (∀ w2 : pm_W, w2 = sI w1 68 7 (1 <<< (gI w1 q1 2 &&& 31)) → (aI w2 77 0 ∧ (∀ w3 : pm_W, w3 = aS w2 77 0 0 → (PS X k 160 24 [.ref 68, .ref q1, .int 0, pm_dead] [] w3 r w')))) := by
  have h := sp_one (i := .aload_n 0) (by decide +kernel) rfl h
  have h := sp_onk (i := .aload_n 1) (by decide +kernel) rfl h
  have h := sp_putR (jj := 12) (ci := 10) (n := 0) (ty := .object "RingVillage$Village") (by decide +kernel) (by decide +kernel) (by decide +kernel) rfl hS h
  intro w1 ew1
  rw [← ew1] at h
  have hSw1 : SK w1 := by rw [ew1]; exact SK_sR hS
  have h := sp_onk (i := .aload_n 0) (by decide +kernel) rfl h
  have h := sp_iconst (n := 1) (v := 1) (by decide +kernel) (by decide +kernel) h
  have h := sp_onk (i := .aload_n 1) (by decide +kernel) rfl h
  have h := sp_getI (jj := 60) (ci := 9) (n := 2) (by decide +kernel) (by decide +kernel) (by decide +kernel) hSw1 h
  have h := sp_onk (i := .ishl) (by decide +kernel) rfl h
  have h := sp_putI (jj := 63) (ci := 10) (n := 7) (ty := .int) (by decide +kernel) (by decide +kernel) (by decide +kernel) hSw1 h
  intro w2 ew2
  rw [← ew2] at h
  have hSw2 : SK w2 := by rw [ew2]; exact SK_sI hSw1
  have h := sp_onk (i := .aload_n 0) (by decide +kernel) rfl h
  have h := sp_getK (jj := 28) (ci := 10) (n := 4) (b := 77) (by decide +kernel) (by decide +kernel) (by decide +kernel) (by decide +kernel) (by decide) hSw2 h
  have h := sp_iconst (n := 0) (v := 0) (by decide +kernel) (by decide +kernel) h
  have h := sp_iconst (n := 0) (v := 0) (by decide +kernel) (by decide +kernel) h
  obtain ⟨hi, h⟩ := sp_iast (by decide +kernel) h
  refine ⟨hi, ?_⟩
  intro w3 ew3
  rw [← ew3] at h
  have hSw3 : SK w3 := by rw [ew3]; exact SK_aS hSw2
  have h := sp_iconst (n := 0) (v := 0) (by decide +kernel) (by decide +kernel) h
  have h := sp_istore_n (j := 2) (ls' := [.ref 68, .ref q1, .int 0, pm_dead]) (by decide +kernel) (Nat.le_of_ble_eq_true rfl) rfl h
  exact h
set_option maxRecDepth 20000 in
set_option maxHeartbeats 2000000 in
theorem U160_24 {X : pm_X} {k : Nat} {w w' : pm_W} {r : Option Value} {o1 : Nat} {i2 : Int32} {u3 : Value} (hS : SK w) (h : PS X (k + 1) 160 24 [.ref 68, .ref o1, .int i2, u3] [] w r w') : if (gI w o1 2) ≤ i2 then (r = none ∧ w' = w) else (PS X k 160 34 [.ref 68, .ref o1, .int i2, .int 0] [] w r w') := by
  have h := sp_one (i := .iload_n 2) (by decide +kernel) rfl h
  have h := sp_onk (i := .aload_n 1) (by decide +kernel) rfl h
  have h := sp_getI (jj := 60) (ci := 9) (n := 2) (by decide +kernel) (by decide +kernel) (by decide +kernel) hS h
  rcases sp_icmp_ge (mi := 160) (pc := 29) (off := 47) (t := 76) (by decide +kernel) (by decide) rfl h with ⟨hc, h⟩ | ⟨hc, h⟩
  · refine ite_t hc ?_
    exact sp_vret (by decide +kernel) h
  · refine ite_f hc ?_
    have h := sp_iconst (n := 0) (v := 0) (by decide +kernel) (by decide +kernel) h
    have h := sp_istore_n (j := 3) (ls' := [.ref 68, .ref o1, .int i2, .int 0]) (by decide +kernel) (Nat.le_of_ble_eq_true rfl) rfl h
    exact h
set_option maxRecDepth 20000 in
set_option maxHeartbeats 2000000 in
theorem U160_34 {X : pm_X} {k : Nat} {w w' : pm_W} {r : Option Value} {o1 : Nat} {i2 : Int32} {i3 : Int32} (hS : SK w) (h : PS X (k + 1) 160 34 [.ref 68, .ref o1, .int i2, .int i3] [] w r w') : if (1 <<< (i2 &&& 31)) ≤ i3 then (PS X k 160 24 [.ref 68, .ref o1, .int (i2 + 1), .int i3] [] w r w') else (aI w 77 i3 ∧ (∃ (r1 : Option Value) (w2 : pm_W), PS X k 65 0 [.ref o1, .int i2, .int 3] [] w r1 w2 ∧ (∀ x3 : Int32, r1 = some (.int x3) → SK w2 → (aI w2 77 (i3 ||| (1 <<< (i2 &&& 31))) ∧ (∀ w4 : pm_W, w4 = aS w2 77 (i3 ||| (1 <<< (i2 &&& 31))) ((aG w 77 i3) + x3) → (PS X k 160 34 [.ref 68, .ref o1, .int i2, .int (i3 + 1)] [] w4 r w')))))) := by
  have h := sp_one (i := .iload_n 3) (by decide +kernel) rfl h
  have h := sp_iconst (n := 1) (v := 1) (by decide +kernel) (by decide +kernel) h
  have h := sp_onk (i := .iload_n 2) (by decide +kernel) rfl h
  have h := sp_onk (i := .ishl) (by decide +kernel) rfl h
  rcases sp_icmp_ge (mi := 160) (pc := 38) (off := 32) (t := 70) (by decide +kernel) (by decide) rfl h with ⟨hc, h⟩ | ⟨hc, h⟩
  · refine ite_t hc ?_
    have h := sp_iinc (j := 2) (n := 1) (v := 1) (ls' := [.ref 68, .ref o1, .int (i2 + 1), .int i3]) (by decide +kernel) rfl (by decide +kernel) rfl h
    have h := sp_goto (mi := 160) (pc := 73) (off := (-49)) (t := 24) (by decide +kernel) (by decide) rfl h
    exact h
  · refine ite_f hc ?_
    have h := sp_onk (i := .aload_n 0) (by decide +kernel) rfl h
    have h := sp_getK (jj := 28) (ci := 10) (n := 4) (b := 77) (by decide +kernel) (by decide +kernel) (by decide +kernel) (by decide +kernel) (by decide) hS h
    have h := sp_onk (i := .iload_n 3) (by decide +kernel) rfl h
    have h := sp_iconst (n := 1) (v := 1) (by decide +kernel) (by decide +kernel) h
    have h := sp_onk (i := .iload_n 2) (by decide +kernel) rfl h
    have h := sp_onk (i := .ishl) (by decide +kernel) rfl h
    have h := sp_onk (i := .ior) (by decide +kernel) rfl h
    have h := sp_onk (i := .aload_n 0) (by decide +kernel) rfl h
    have h := sp_getK (jj := 28) (ci := 10) (n := 4) (b := 77) (by decide +kernel) (by decide +kernel) (by decide +kernel) (by decide +kernel) (by decide) hS h
    have h := sp_onk (i := .iload_n 3) (by decide +kernel) rfl h
    obtain ⟨hi, h⟩ := sp_iald (by decide +kernel) h
    refine ⟨hi, ?_⟩
    have h := sp_onk (i := .aload_n 1) (by decide +kernel) rfl h
    have h := sp_onk (i := .iload_n 2) (by decide +kernel) rfl h
    have h := sp_iconst (n := 3) (v := 3) (by decide +kernel) (by decide +kernel) h
    obtain ⟨r1, w2, hc, h⟩ := sp_callV (jj := 66) (mj := 65) (n := 2) (v := .ref o1) (args := [.int 3, .int i2]) (ls' := [.ref o1, .int i2, .int 3]) (by decide +kernel) (by decide +kernel) rfl rfl rfl h
    refine ⟨r1, w2, hc, fun x3 er hSw2 => ?_⟩
    subst er
    have h : PS X k 160 62 [.ref 68, .ref o1, .int i2, .int i3] [.int x3, .int (aG w 77 i3), .int (i3 ||| (1 <<< (i2 &&& 31))), .ref 77] w2 r w' := h
    have h := sp_onk (i := .iadd) (by decide +kernel) rfl h
    obtain ⟨hi, h⟩ := sp_iast (by decide +kernel) h
    refine ⟨hi, ?_⟩
    intro w4 ew4
    rw [← ew4] at h
    have hSw4 : SK w4 := by rw [ew4]; exact SK_aS hSw2
    have h := sp_iinc (j := 3) (n := 1) (v := 1) (ls' := [.ref 68, .ref o1, .int i2, .int (i3 + 1)]) (by decide +kernel) rfl (by decide +kernel) rfl h
    have h := sp_goto (mi := 160) (pc := 67) (off := (-33)) (t := 34) (by decide +kernel) (by decide) rfl h
    exact h
set_option maxRecDepth 20000 in
set_option maxHeartbeats 2000000 in
theorem U162_0 {X : pm_X} {k : Nat} {w w' : pm_W} {r : Option Value} {a : Nat} (hS : SK w) (h : PS X (k + 1) 162 0 [.ref a] [] w r w') : ∃ (r1 : Option Value) (w2 : pm_W), PS X k 20 0 [.ref (gR w a 0), .int 0, pm_dead, pm_dead] [] w r1 w2 ∧ (r1 = none → SK w2 → (r = none ∧ w' = w2)) := by
  have h := sp_one (i := .aload_n 0) (by decide +kernel) rfl h
  have h := sp_getR (jj := 11) (ci := 0) (n := 0) (by decide +kernel) (by decide +kernel) (by decide +kernel) hS h
  have h := sp_iconst (n := 0) (v := 0) (by decide +kernel) (by decide +kernel) h
  obtain ⟨r1, w2, hc, h⟩ := sp_callS (jj := 21) (mj := 20) (n := 2) (args := [.int 0, .ref (gR w a 0)]) (ls' := [.ref (gR w a 0), .int 0, pm_dead, pm_dead]) (by decide +kernel) (by decide +kernel) (by decide +kernel) rfl rfl rfl h
  refine ⟨r1, w2, hc, fun er hSw2 => ?_⟩
  subst er
  have h : PS X k 162 8 [.ref a] [] w2 r w' := h
  exact sp_vret (by decide +kernel) h
set_option maxRecDepth 20000 in
set_option maxHeartbeats 2000000 in
theorem U163_0 {X : pm_X} {k : Nat} {w w' : pm_W} {r : Option Value} {a : Nat} {p1 : Int32} {p2 : Int32} {p3 : Int32} (hS : SK w) (h : PS X (k + 1) 163 0 [.ref a, .int p1, .int p2, .int p3] [] w r w') : aI w (gR w a 0) ((p1 * 12) + p2) ∧ (∀ w1 : pm_W, w1 = aS w (gR w a 0) ((p1 * 12) + p2) p3 → (r = none ∧ w' = w1)) := by
  have h := sp_one (i := .aload_n 0) (by decide +kernel) rfl h
  have h := sp_getR (jj := 11) (ci := 0) (n := 0) (by decide +kernel) (by decide +kernel) (by decide +kernel) hS h
  have h := sp_onk (i := .iload_n 1) (by decide +kernel) rfl h
  have h := sp_bipush (n := 12) (v := 12) (by decide +kernel) (by decide +kernel) h
  have h := sp_onk (i := .imul) (by decide +kernel) rfl h
  have h := sp_onk (i := .iload_n 2) (by decide +kernel) rfl h
  have h := sp_onk (i := .iadd) (by decide +kernel) rfl h
  have h := sp_onk (i := .iload_n 3) (by decide +kernel) rfl h
  obtain ⟨hi, h⟩ := sp_iast (by decide +kernel) h
  refine ⟨hi, ?_⟩
  intro w1 ew1
  rw [← ew1] at h
  have hSw1 : SK w1 := by rw [ew1]; exact SK_aS hS
  exact sp_vret (by decide +kernel) h
set_option maxRecDepth 20000 in
set_option maxHeartbeats 2000000 in
theorem U164_0 {X : pm_X} {k : Nat} {w w' : pm_W} {r : Option Value} {a : Nat} {p1 : Int32} {p2 : Int32} (hS : SK w) (h : PS X (k + 1) 164 0 [.ref a, .int p1, .int p2, pm_dead, pm_dead] [] w r w') : PS X k 164 5 [.ref a, .int p1, .int p2, .int 0, .int 0] [] w r w' := by
  have h := sp_iconst1 (n := 0) (v := 0) (by decide +kernel) (by decide +kernel) h
  have h := sp_istore_n (j := 3) (ls' := [.ref a, .int p1, .int p2, .int 0, pm_dead]) (by decide +kernel) (Nat.le_of_ble_eq_true rfl) rfl h
  have h := sp_iconst (n := 0) (v := 0) (by decide +kernel) (by decide +kernel) h
  have h := sp_istore (j := 4) (ls' := [.ref a, .int p1, .int p2, .int 0, .int 0]) (by decide +kernel) (Nat.le_of_ble_eq_true rfl) rfl h
  exact h
set_option maxRecDepth 20000 in
set_option maxHeartbeats 2000000 in
theorem U164_5 {X : pm_X} {k : Nat} {w w' : pm_W} {r : Option Value} {o0 : Nat} {i1 : Int32} {i2 : Int32} {i3 : Int32} {i4 : Int32} (hS : SK w) (h : PS X (k + 1) 164 5 [.ref o0, .int i1, .int i2, .int i3, .int i4] [] w r w') : if 1000000 ≤ i4 then (r = some (.int i3) ∧ w' = w) else (∃ (r1 : Option Value) (w2 : pm_W), PS X k 165 0 [.ref o0, .int i1, .int i2, pm_dead, pm_dead, pm_dead, pm_dead] [] w r1 w2 ∧ (∀ x3 : Int32, r1 = some (.int x3) → SK w2 → (if x3 = 0 then (r = some (.int i3) ∧ w' = w2) else (∃ (r4 : Option Value) (w5 : pm_W), PS X k 166 0 [.ref o0, .int i1, .int i2, pm_dead, pm_dead, pm_dead, pm_dead] [] w2 r4 w5 ∧ (∀ x6 : Int32, r4 = some (.int x6) → SK w5 → (PS X k 164 5 [.ref o0, .int i1, .int i2, .int (i3 + x6), .int (i4 + 1)] [] w5 r w')))))) := by
  have h := sp_one (i := .iload 4) (by decide +kernel) rfl h
  have h := sp_ldc (j := 27) (v := 1000000) (by decide +kernel) (by decide +kernel) h
  rcases sp_icmp_ge (mi := 164) (pc := 9) (off := 29) (t := 38) (by decide +kernel) (by decide) rfl h with ⟨hc, h⟩ | ⟨hc, h⟩
  · refine ite_t hc ?_
    have h := sp_onk (i := .iload_n 3) (by decide +kernel) rfl h
    exact sp_iret (by decide +kernel) h
  · refine ite_f hc ?_
    have h := sp_onk (i := .aload_n 0) (by decide +kernel) rfl h
    have h := sp_onk (i := .iload_n 1) (by decide +kernel) rfl h
    have h := sp_onk (i := .iload_n 2) (by decide +kernel) rfl h
    obtain ⟨r1, w2, hc, h⟩ := sp_callV (jj := 28) (mj := 165) (n := 2) (v := .ref o0) (args := [.int i2, .int i1]) (ls' := [.ref o0, .int i1, .int i2, pm_dead, pm_dead, pm_dead, pm_dead]) (by decide +kernel) (by decide +kernel) rfl rfl rfl h
    refine ⟨r1, w2, hc, fun x3 er hSw2 => ?_⟩
    subst er
    have h : PS X k 164 18 [.ref o0, .int i1, .int i2, .int i3, .int i4] [.int x3] w2 r w' := h
    rcases sp_if_ne (mi := 164) (pc := 18) (off := 5) (t := 23) (by decide +kernel) (by decide) rfl h with ⟨hc, h⟩ | ⟨hc, h⟩
    · refine ite_f hc ?_
      have h := sp_onk (i := .iload_n 3) (by decide +kernel) rfl h
      have h := sp_onk (i := .aload_n 0) (by decide +kernel) rfl h
      have h := sp_onk (i := .iload_n 1) (by decide +kernel) rfl h
      have h := sp_onk (i := .iload_n 2) (by decide +kernel) rfl h
      obtain ⟨r4, w5, hc, h⟩ := sp_callV (jj := 32) (mj := 166) (n := 2) (v := .ref o0) (args := [.int i2, .int i1]) (ls' := [.ref o0, .int i1, .int i2, pm_dead, pm_dead, pm_dead, pm_dead]) (by decide +kernel) (by decide +kernel) rfl rfl rfl h
      refine ⟨r4, w5, hc, fun x6 er hSw5 => ?_⟩
      subst er
      have h : PS X k 164 30 [.ref o0, .int i1, .int i2, .int i3, .int i4] [.int x6, .int i3] w5 r w' := h
      have h := sp_onk (i := .iadd) (by decide +kernel) rfl h
      have h := sp_istore_n (j := 3) (ls' := [.ref o0, .int i1, .int i2, .int (i3 + x6), .int i4]) (by decide +kernel) (Nat.le_of_ble_eq_true rfl) rfl h
      have h := sp_iinc (j := 4) (n := 1) (v := 1) (ls' := [.ref o0, .int i1, .int i2, .int (i3 + x6), .int (i4 + 1)]) (by decide +kernel) rfl (by decide +kernel) rfl h
      have h := sp_goto (mi := 164) (pc := 35) (off := (-30)) (t := 5) (by decide +kernel) (by decide) rfl h
      exact h
    · refine ite_t (Classical.not_not.mp hc) ?_
      have h := sp_onk (i := .iload_n 3) (by decide +kernel) rfl h
      exact sp_iret (by decide +kernel) h
set_option maxRecDepth 20000 in
set_option maxHeartbeats 2000000 in
theorem U165_0 {X : pm_X} {k : Nat} {w w' : pm_W} {r : Option Value} {a : Nat} {p1 : Int32} {p2 : Int32} (hS : SK w) (h : PS X (k + 1) 165 0 [.ref a, .int p1, .int p2, pm_dead, pm_dead, pm_dead, pm_dead] [] w r w') : ∃ (r1 : Option Value) (w2 : pm_W), PS X k 20 0 [.ref (gR w a 1), .int (-1), pm_dead, pm_dead] [] w r1 w2 ∧ (r1 = none → SK w2 → (aI w2 (gR w2 a 1) p1 ∧ (∀ w3 : pm_W, w3 = aS w2 (gR w2 a 1) p1 p1 → (aI w3 (gR w3 a 2) 0 ∧ (∀ w4 : pm_W, w4 = aS w3 (gR w3 a 2) 0 p1 → (PS X k 165 27 [.ref a, .int p1, .int p2, .int 1, .int 0, pm_dead, pm_dead] [] w4 r w')))))) := by
  have h := sp_one (i := .aload_n 0) (by decide +kernel) rfl h
  have h := sp_getR (jj := 15) (ci := 0) (n := 1) (by decide +kernel) (by decide +kernel) (by decide +kernel) hS h
  have h := sp_iconst (n := (-1)) (v := (-1)) (by decide +kernel) (by decide +kernel) h
  obtain ⟨r1, w2, hc, h⟩ := sp_callS (jj := 21) (mj := 20) (n := 2) (args := [.int (-1), .ref (gR w a 1)]) (ls' := [.ref (gR w a 1), .int (-1), pm_dead, pm_dead]) (by decide +kernel) (by decide +kernel) (by decide +kernel) rfl rfl rfl h
  refine ⟨r1, w2, hc, fun er hSw2 => ?_⟩
  subst er
  have h : PS X k 165 8 [.ref a, .int p1, .int p2, pm_dead, pm_dead, pm_dead, pm_dead] [] w2 r w' := h
  have h := sp_onk (i := .aload_n 0) (by decide +kernel) rfl h
  have h := sp_getR (jj := 15) (ci := 0) (n := 1) (by decide +kernel) (by decide +kernel) (by decide +kernel) hSw2 h
  have h := sp_onk (i := .iload_n 1) (by decide +kernel) rfl h
  have h := sp_onk (i := .iload_n 1) (by decide +kernel) rfl h
  obtain ⟨hi, h⟩ := sp_iast (by decide +kernel) h
  refine ⟨hi, ?_⟩
  intro w3 ew3
  rw [← ew3] at h
  have hSw3 : SK w3 := by rw [ew3]; exact SK_aS hSw2
  have h := sp_onk (i := .aload_n 0) (by decide +kernel) rfl h
  have h := sp_getR (jj := 18) (ci := 0) (n := 2) (by decide +kernel) (by decide +kernel) (by decide +kernel) hSw3 h
  have h := sp_iconst (n := 0) (v := 0) (by decide +kernel) (by decide +kernel) h
  have h := sp_onk (i := .iload_n 1) (by decide +kernel) rfl h
  obtain ⟨hi, h⟩ := sp_iast (by decide +kernel) h
  refine ⟨hi, ?_⟩
  intro w4 ew4
  rw [← ew4] at h
  have hSw4 : SK w4 := by rw [ew4]; exact SK_aS hSw3
  have h := sp_iconst (n := 1) (v := 1) (by decide +kernel) (by decide +kernel) h
  have h := sp_istore_n (j := 3) (ls' := [.ref a, .int p1, .int p2, .int 1, pm_dead, pm_dead, pm_dead]) (by decide +kernel) (Nat.le_of_ble_eq_true rfl) rfl h
  have h := sp_iconst (n := 0) (v := 0) (by decide +kernel) (by decide +kernel) h
  have h := sp_istore (j := 4) (ls' := [.ref a, .int p1, .int p2, .int 1, .int 0, pm_dead, pm_dead]) (by decide +kernel) (Nat.le_of_ble_eq_true rfl) rfl h
  exact h
set_option maxRecDepth 20000 in
set_option maxHeartbeats 2000000 in
theorem U165_27 {X : pm_X} {k : Nat} {w w' : pm_W} {r : Option Value} {o0 : Nat} {i1 : Int32} {i2 : Int32} {i3 : Int32} {i4 : Int32} {u5 : Value} {u6 : Value} (hS : SK w) (h : PS X (k + 1) 165 27 [.ref o0, .int i1, .int i2, .int i3, .int i4, u5, u6] [] w r w') : if i3 ≤ i4 then (r = some (.int 0) ∧ w' = w) else (if 12 ≤ i4 then (r = some (.int 0) ∧ w' = w) else (aI w (gR w o0 2) i4 ∧ (PS X k 165 52 [.ref o0, .int i1, .int i2, .int i3, .int i4, .int (aG w (gR w o0 2) i4), .int 0] [] w r w'))) := by
  have h := sp_one (i := .iload 4) (by decide +kernel) rfl h
  have h := sp_onk (i := .iload_n 3) (by decide +kernel) rfl h
  rcases sp_icmp_ge (mi := 165) (pc := 30) (off := 100) (t := 130) (by decide +kernel) (by decide) rfl h with ⟨hc, h⟩ | ⟨hc, h⟩
  · refine ite_t hc ?_
    have h := sp_iconst (n := 0) (v := 0) (by decide +kernel) (by decide +kernel) h
    exact sp_iret (by decide +kernel) h
  · refine ite_f hc ?_
    have h := sp_onk (i := .iload 4) (by decide +kernel) rfl h
    have h := sp_bipush (n := 12) (v := 12) (by decide +kernel) (by decide +kernel) h
    rcases sp_icmp_ge (mi := 165) (pc := 37) (off := 93) (t := 130) (by decide +kernel) (by decide) rfl h with ⟨hc, h⟩ | ⟨hc, h⟩
    · refine ite_t hc ?_
      have h := sp_iconst (n := 0) (v := 0) (by decide +kernel) (by decide +kernel) h
      exact sp_iret (by decide +kernel) h
    · refine ite_f hc ?_
      have h := sp_onk (i := .aload_n 0) (by decide +kernel) rfl h
      have h := sp_getR (jj := 18) (ci := 0) (n := 2) (by decide +kernel) (by decide +kernel) (by decide +kernel) hS h
      have h := sp_onk (i := .iload 4) (by decide +kernel) rfl h
      obtain ⟨hi, h⟩ := sp_iald (by decide +kernel) h
      refine ⟨hi, ?_⟩
      have h := sp_istore (j := 5) (ls' := [.ref o0, .int i1, .int i2, .int i3, .int i4, .int (aG w (gR w o0 2) i4), u6]) (by decide +kernel) (Nat.le_of_ble_eq_true rfl) rfl h
      have h := sp_iconst (n := 0) (v := 0) (by decide +kernel) (by decide +kernel) h
      have h := sp_istore (j := 6) (ls' := [.ref o0, .int i1, .int i2, .int i3, .int i4, .int (aG w (gR w o0 2) i4), .int 0]) (by decide +kernel) (Nat.le_of_ble_eq_true rfl) rfl h
      exact h
set_option maxRecDepth 20000 in
set_option maxHeartbeats 2000000 in
theorem U165_52 {X : pm_X} {k : Nat} {w w' : pm_W} {r : Option Value} {o0 : Nat} {i1 : Int32} {i2 : Int32} {i3 : Int32} {i4 : Int32} {i5 : Int32} {i6 : Int32} (hS : SK w) (h : PS X (k + 1) 165 52 [.ref o0, .int i1, .int i2, .int i3, .int i4, .int i5, .int i6] [] w r w') : if 12 ≤ i6 then (aI w (gR w o0 1) i2 ∧ (if (aG w (gR w o0 1) i2) = (-1) then (PS X k 165 27 [.ref o0, .int i1, .int i2, .int i3, .int (i4 + 1), .int i5, .int i6] [] w r w') else (r = some (.int 1) ∧ w' = w))) else (aI w (gR w o0 1) i6 ∧ (if (aG w (gR w o0 1) i6) = (-1) then (aI w (gR w o0 0) ((i5 * 12) + i6) ∧ (if (aG w (gR w o0 0) ((i5 * 12) + i6)) ≤ 0 then (PS X k 165 52 [.ref o0, .int i1, .int i2, .int i3, .int i4, .int i5, .int (i6 + 1)] [] w r w') else (aI w (gR w o0 1) i6 ∧ (∀ w1 : pm_W, w1 = aS w (gR w o0 1) i6 i5 → (aI w1 (gR w1 o0 2) i3 ∧ (∀ w2 : pm_W, w2 = aS w1 (gR w1 o0 2) i3 i6 → (PS X k 165 52 [.ref o0, .int i1, .int i2, .int (i3 + 1), .int i4, .int i5, .int (i6 + 1)] [] w2 r w'))))))) else (PS X k 165 52 [.ref o0, .int i1, .int i2, .int i3, .int i4, .int i5, .int (i6 + 1)] [] w r w'))) := by
  have h := sp_one (i := .iload 6) (by decide +kernel) rfl h
  have h := sp_bipush (n := 12) (v := 12) (by decide +kernel) (by decide +kernel) h
  rcases sp_icmp_ge (mi := 165) (pc := 56) (off := 56) (t := 112) (by decide +kernel) (by decide) rfl h with ⟨hc, h⟩ | ⟨hc, h⟩
  · refine ite_t hc ?_
    have h := sp_onk (i := .aload_n 0) (by decide +kernel) rfl h
    have h := sp_getR (jj := 15) (ci := 0) (n := 1) (by decide +kernel) (by decide +kernel) (by decide +kernel) hS h
    have h := sp_onk (i := .iload_n 2) (by decide +kernel) rfl h
    obtain ⟨hi, h⟩ := sp_iald (by decide +kernel) h
    refine ⟨hi, ?_⟩
    have h := sp_iconst (n := (-1)) (v := (-1)) (by decide +kernel) (by decide +kernel) h
    rcases sp_icmp_eq (mi := 165) (pc := 119) (off := 5) (t := 124) (by decide +kernel) (by decide) rfl h with ⟨hc, h⟩ | ⟨hc, h⟩
    · refine ite_t hc ?_
      have h := sp_iinc (j := 4) (n := 1) (v := 1) (ls' := [.ref o0, .int i1, .int i2, .int i3, .int (i4 + 1), .int i5, .int i6]) (by decide +kernel) rfl (by decide +kernel) rfl h
      have h := sp_goto (mi := 165) (pc := 127) (off := (-100)) (t := 27) (by decide +kernel) (by decide) rfl h
      exact h
    · refine ite_f hc ?_
      have h := sp_iconst (n := 1) (v := 1) (by decide +kernel) (by decide +kernel) h
      exact sp_iret (by decide +kernel) h
  · refine ite_f hc ?_
    have h := sp_onk (i := .aload_n 0) (by decide +kernel) rfl h
    have h := sp_getR (jj := 15) (ci := 0) (n := 1) (by decide +kernel) (by decide +kernel) (by decide +kernel) hS h
    have h := sp_onk (i := .iload 6) (by decide +kernel) rfl h
    obtain ⟨hi, h⟩ := sp_iald (by decide +kernel) h
    refine ⟨hi, ?_⟩
    have h := sp_iconst (n := (-1)) (v := (-1)) (by decide +kernel) (by decide +kernel) h
    rcases sp_icmp_ne (mi := 165) (pc := 67) (off := 39) (t := 106) (by decide +kernel) (by decide) rfl h with ⟨hc, h⟩ | ⟨hc, h⟩
    · refine ite_f hc ?_
      have h := sp_iinc (j := 6) (n := 1) (v := 1) (ls' := [.ref o0, .int i1, .int i2, .int i3, .int i4, .int i5, .int (i6 + 1)]) (by decide +kernel) rfl (by decide +kernel) rfl h
      have h := sp_goto (mi := 165) (pc := 109) (off := (-57)) (t := 52) (by decide +kernel) (by decide) rfl h
      exact h
    · refine ite_t (Classical.not_not.mp hc) ?_
      have h := sp_onk (i := .aload_n 0) (by decide +kernel) rfl h
      have h := sp_getR (jj := 11) (ci := 0) (n := 0) (by decide +kernel) (by decide +kernel) (by decide +kernel) hS h
      have h := sp_onk (i := .iload 5) (by decide +kernel) rfl h
      have h := sp_bipush (n := 12) (v := 12) (by decide +kernel) (by decide +kernel) h
      have h := sp_onk (i := .imul) (by decide +kernel) rfl h
      have h := sp_onk (i := .iload 6) (by decide +kernel) rfl h
      have h := sp_onk (i := .iadd) (by decide +kernel) rfl h
      obtain ⟨hi, h⟩ := sp_iald (by decide +kernel) h
      refine ⟨hi, ?_⟩
      rcases sp_if_le (mi := 165) (pc := 83) (off := 23) (t := 106) (by decide +kernel) (by decide) rfl h with ⟨hc, h⟩ | ⟨hc, h⟩
      · refine ite_t hc ?_
        have h := sp_iinc (j := 6) (n := 1) (v := 1) (ls' := [.ref o0, .int i1, .int i2, .int i3, .int i4, .int i5, .int (i6 + 1)]) (by decide +kernel) rfl (by decide +kernel) rfl h
        have h := sp_goto (mi := 165) (pc := 109) (off := (-57)) (t := 52) (by decide +kernel) (by decide) rfl h
        exact h
      · refine ite_f hc ?_
        have h := sp_onk (i := .aload_n 0) (by decide +kernel) rfl h
        have h := sp_getR (jj := 15) (ci := 0) (n := 1) (by decide +kernel) (by decide +kernel) (by decide +kernel) hS h
        have h := sp_onk (i := .iload 6) (by decide +kernel) rfl h
        have h := sp_onk (i := .iload 5) (by decide +kernel) rfl h
        obtain ⟨hi, h⟩ := sp_iast (by decide +kernel) h
        refine ⟨hi, ?_⟩
        intro w1 ew1
        rw [← ew1] at h
        have hSw1 : SK w1 := by rw [ew1]; exact SK_aS hS
        have h := sp_onk (i := .aload_n 0) (by decide +kernel) rfl h
        have h := sp_getR (jj := 18) (ci := 0) (n := 2) (by decide +kernel) (by decide +kernel) (by decide +kernel) hSw1 h
        have h := sp_onk (i := .iload_n 3) (by decide +kernel) rfl h
        have h := sp_onk (i := .iload 6) (by decide +kernel) rfl h
        obtain ⟨hi, h⟩ := sp_iast (by decide +kernel) h
        refine ⟨hi, ?_⟩
        intro w2 ew2
        rw [← ew2] at h
        have hSw2 : SK w2 := by rw [ew2]; exact SK_aS hSw1
        have h := sp_iinc (j := 3) (n := 1) (v := 1) (ls' := [.ref o0, .int i1, .int i2, .int (i3 + 1), .int i4, .int i5, .int i6]) (by decide +kernel) rfl (by decide +kernel) rfl h
        have h := sp_iinc (j := 6) (n := 1) (v := 1) (ls' := [.ref o0, .int i1, .int i2, .int (i3 + 1), .int i4, .int i5, .int (i6 + 1)]) (by decide +kernel) rfl (by decide +kernel) rfl h
        have h := sp_goto (mi := 165) (pc := 109) (off := (-57)) (t := 52) (by decide +kernel) (by decide) rfl h
        exact h
set_option maxRecDepth 20000 in
set_option maxHeartbeats 2000000 in
theorem U166_0 {X : pm_X} {k : Nat} {w w' : pm_W} {r : Option Value} {a : Nat} {p1 : Int32} {p2 : Int32} (hS : SK w) (h : PS X (k + 1) 166 0 [.ref a, .int p1, .int p2, pm_dead, pm_dead, pm_dead, pm_dead] [] w r w') : PS X k 166 9 [.ref a, .int p1, .int p2, .int 1000000, .int p2, .int 0, pm_dead] [] w r w' := by
  have h := sp_ldc1 (j := 27) (v := 1000000) (by decide +kernel) (by decide +kernel) h
  have h := sp_istore_n (j := 3) (ls' := [.ref a, .int p1, .int p2, .int 1000000, pm_dead, pm_dead, pm_dead]) (by decide +kernel) (Nat.le_of_ble_eq_true rfl) rfl h
  have h := sp_onk (i := .iload_n 2) (by decide +kernel) rfl h
  have h := sp_istore (j := 4) (ls' := [.ref a, .int p1, .int p2, .int 1000000, .int p2, pm_dead, pm_dead]) (by decide +kernel) (Nat.le_of_ble_eq_true rfl) rfl h
  have h := sp_iconst (n := 0) (v := 0) (by decide +kernel) (by decide +kernel) h
  have h := sp_istore (j := 5) (ls' := [.ref a, .int p1, .int p2, .int 1000000, .int p2, .int 0, pm_dead]) (by decide +kernel) (Nat.le_of_ble_eq_true rfl) rfl h
  exact h
set_option maxRecDepth 20000 in
set_option maxHeartbeats 2000000 in
theorem U166_9 {X : pm_X} {k : Nat} {w w' : pm_W} {r : Option Value} {o0 : Nat} {i1 : Int32} {i2 : Int32} {i3 : Int32} {i4 : Int32} {i5 : Int32} (hS : SK w) (h : PS X (k + 1) 166 9 [.ref o0, .int i1, .int i2, .int i3, .int i4, .int i5, pm_dead] [] w r w') : if 12 ≤ i5 then (PS X k 166 66 [.ref o0, .int i1, .int i2, .int i3, .int i2, .int 0, pm_dead] [] w r w') else (if i4 = i1 then (PS X k 166 66 [.ref o0, .int i1, .int i2, .int i3, .int i2, .int 0, pm_dead] [] w r w') else (aI w (gR w o0 1) i4 ∧ (aI w (gR w o0 0) (((aG w (gR w o0 1) i4) * 12) + i4) ∧ (aI w (gR w o0 1) i4 ∧ (PS X k 166 9 [.ref o0, .int i1, .int i2, .int (if (aG w (gR w o0 0) (((aG w (gR w o0 1) i4) * 12) + i4)) < i3 then (aG w (gR w o0 0) (((aG w (gR w o0 1) i4) * 12) + i4)) else i3), .int (aG w (gR w o0 1) i4), .int (i5 + 1), pm_dead] [] w r w'))))) := by
  have h := sp_one (i := .iload 5) (by decide +kernel) rfl h
  have h := sp_bipush (n := 12) (v := 12) (by decide +kernel) (by decide +kernel) h
  rcases sp_icmp_ge (mi := 166) (pc := 13) (off := 47) (t := 60) (by decide +kernel) (by decide) rfl h with ⟨hc, h⟩ | ⟨hc, h⟩
  · refine ite_t hc ?_
    have h := sp_onk (i := .iload_n 2) (by decide +kernel) rfl h
    have h := sp_istore (j := 4) (ls' := [.ref o0, .int i1, .int i2, .int i3, .int i2, .int i5, pm_dead]) (by decide +kernel) (Nat.le_of_ble_eq_true rfl) rfl h
    have h := sp_iconst (n := 0) (v := 0) (by decide +kernel) (by decide +kernel) h
    have h := sp_istore (j := 5) (ls' := [.ref o0, .int i1, .int i2, .int i3, .int i2, .int 0, pm_dead]) (by decide +kernel) (Nat.le_of_ble_eq_true rfl) rfl h
    exact h
  · refine ite_f hc ?_
    have h := sp_onk (i := .iload 4) (by decide +kernel) rfl h
    have h := sp_onk (i := .iload_n 1) (by decide +kernel) rfl h
    rcases sp_icmp_eq (mi := 166) (pc := 19) (off := 41) (t := 60) (by decide +kernel) (by decide) rfl h with ⟨hc, h⟩ | ⟨hc, h⟩
    · refine ite_t hc ?_
      have h := sp_onk (i := .iload_n 2) (by decide +kernel) rfl h
      have h := sp_istore (j := 4) (ls' := [.ref o0, .int i1, .int i2, .int i3, .int i2, .int i5, pm_dead]) (by decide +kernel) (Nat.le_of_ble_eq_true rfl) rfl h
      have h := sp_iconst (n := 0) (v := 0) (by decide +kernel) (by decide +kernel) h
      have h := sp_istore (j := 5) (ls' := [.ref o0, .int i1, .int i2, .int i3, .int i2, .int 0, pm_dead]) (by decide +kernel) (Nat.le_of_ble_eq_true rfl) rfl h
      exact h
    · refine ite_f hc ?_
      have h := sp_onk (i := .iload_n 3) (by decide +kernel) rfl h
      have h := sp_onk (i := .aload_n 0) (by decide +kernel) rfl h
      have h := sp_getR (jj := 11) (ci := 0) (n := 0) (by decide +kernel) (by decide +kernel) (by decide +kernel) hS h
      have h := sp_onk (i := .aload_n 0) (by decide +kernel) rfl h
      have h := sp_getR (jj := 15) (ci := 0) (n := 1) (by decide +kernel) (by decide +kernel) (by decide +kernel) hS h
      have h := sp_onk (i := .iload 4) (by decide +kernel) rfl h
      obtain ⟨hi, h⟩ := sp_iald (by decide +kernel) h
      refine ⟨hi, ?_⟩
      have h := sp_bipush (n := 12) (v := 12) (by decide +kernel) (by decide +kernel) h
      have h := sp_onk (i := .imul) (by decide +kernel) rfl h
      have h := sp_onk (i := .iload 4) (by decide +kernel) rfl h
      have h := sp_onk (i := .iadd) (by decide +kernel) rfl h
      obtain ⟨hi, h⟩ := sp_iald (by decide +kernel) h
      refine ⟨hi, ?_⟩
      have h := sp_min (j := 36) (by decide +kernel) (by decide +kernel) (by decide +kernel) h
      have h := sp_istore_n (j := 3) (ls' := [.ref o0, .int i1, .int i2, .int (if (aG w (gR w o0 0) (((aG w (gR w o0 1) i4) * 12) + i4)) < i3 then (aG w (gR w o0 0) (((aG w (gR w o0 1) i4) * 12) + i4)) else i3), .int i4, .int i5, pm_dead]) (by decide +kernel) (Nat.le_of_ble_eq_true rfl) rfl h
      have h := sp_onk (i := .aload_n 0) (by decide +kernel) rfl h
      have h := sp_getR (jj := 15) (ci := 0) (n := 1) (by decide +kernel) (by decide +kernel) (by decide +kernel) hS h
      have h := sp_onk (i := .iload 4) (by decide +kernel) rfl h
      obtain ⟨hi, h⟩ := sp_iald (by decide +kernel) h
      refine ⟨hi, ?_⟩
      have h := sp_istore (j := 4) (ls' := [.ref o0, .int i1, .int i2, .int (if (aG w (gR w o0 0) (((aG w (gR w o0 1) i4) * 12) + i4)) < i3 then (aG w (gR w o0 0) (((aG w (gR w o0 1) i4) * 12) + i4)) else i3), .int (aG w (gR w o0 1) i4), .int i5, pm_dead]) (by decide +kernel) (Nat.le_of_ble_eq_true rfl) rfl h
      have h := sp_iinc (j := 5) (n := 1) (v := 1) (ls' := [.ref o0, .int i1, .int i2, .int (if (aG w (gR w o0 0) (((aG w (gR w o0 1) i4) * 12) + i4)) < i3 then (aG w (gR w o0 0) (((aG w (gR w o0 1) i4) * 12) + i4)) else i3), .int (aG w (gR w o0 1) i4), .int (i5 + 1), pm_dead]) (by decide +kernel) rfl (by decide +kernel) rfl h
      have h := sp_goto (mi := 166) (pc := 57) (off := (-48)) (t := 9) (by decide +kernel) (by decide) rfl h
      exact h
set_option maxRecDepth 20000 in
set_option maxHeartbeats 2000000 in
theorem U166_66 {X : pm_X} {k : Nat} {w w' : pm_W} {r : Option Value} {o0 : Nat} {i1 : Int32} {i2 : Int32} {i3 : Int32} {i4 : Int32} {i5 : Int32} {u6 : Value} (hS : SK w) (h : PS X (k + 1) 166 66 [.ref o0, .int i1, .int i2, .int i3, .int i4, .int i5, u6] [] w r w') : if 12 ≤ i5 then (r = some (.int i3) ∧ w' = w) else (if i4 = i1 then (r = some (.int i3) ∧ w' = w) else (aI w (gR w o0 1) i4 ∧ (aI w (gR w o0 0) (((aG w (gR w o0 1) i4) * 12) + i4) ∧ (aI w (gR w o0 0) (((aG w (gR w o0 1) i4) * 12) + i4) ∧ (∀ w1 : pm_W, w1 = aS w (gR w o0 0) (((aG w (gR w o0 1) i4) * 12) + i4) ((aG w (gR w o0 0) (((aG w (gR w o0 1) i4) * 12) + i4)) - i3) → (aI w1 (gR w1 o0 0) ((i4 * 12) + (aG w (gR w o0 1) i4)) ∧ (aI w1 (gR w1 o0 0) ((i4 * 12) + (aG w (gR w o0 1) i4)) ∧ (∀ w2 : pm_W, w2 = aS w1 (gR w1 o0 0) ((i4 * 12) + (aG w (gR w o0 1) i4)) ((aG w1 (gR w1 o0 0) ((i4 * 12) + (aG w (gR w o0 1) i4))) + i3) → (PS X k 166 66 [.ref o0, .int i1, .int i2, .int i3, .int (aG w (gR w o0 1) i4), .int (i5 + 1), .int (aG w (gR w o0 1) i4)] [] w2 r w'))))))))) := by
  have h := sp_one (i := .iload 5) (by decide +kernel) rfl h
  have h := sp_bipush (n := 12) (v := 12) (by decide +kernel) (by decide +kernel) h
  rcases sp_icmp_ge (mi := 166) (pc := 70) (off := 62) (t := 132) (by decide +kernel) (by decide) rfl h with ⟨hc, h⟩ | ⟨hc, h⟩
  · refine ite_t hc ?_
    have h := sp_onk (i := .iload_n 3) (by decide +kernel) rfl h
    exact sp_iret (by decide +kernel) h
  · refine ite_f hc ?_
    have h := sp_onk (i := .iload 4) (by decide +kernel) rfl h
    have h := sp_onk (i := .iload_n 1) (by decide +kernel) rfl h
    rcases sp_icmp_eq (mi := 166) (pc := 76) (off := 56) (t := 132) (by decide +kernel) (by decide) rfl h with ⟨hc, h⟩ | ⟨hc, h⟩
    · refine ite_t hc ?_
      have h := sp_onk (i := .iload_n 3) (by decide +kernel) rfl h
      exact sp_iret (by decide +kernel) h
    · refine ite_f hc ?_
      have h := sp_onk (i := .aload_n 0) (by decide +kernel) rfl h
      have h := sp_getR (jj := 15) (ci := 0) (n := 1) (by decide +kernel) (by decide +kernel) (by decide +kernel) hS h
      have h := sp_onk (i := .iload 4) (by decide +kernel) rfl h
      obtain ⟨hi, h⟩ := sp_iald (by decide +kernel) h
      refine ⟨hi, ?_⟩
      have h := sp_istore (j := 6) (ls' := [.ref o0, .int i1, .int i2, .int i3, .int i4, .int i5, .int (aG w (gR w o0 1) i4)]) (by decide +kernel) (Nat.le_of_ble_eq_true rfl) rfl h
      have h := sp_onk (i := .aload_n 0) (by decide +kernel) rfl h
      have h := sp_getR (jj := 11) (ci := 0) (n := 0) (by decide +kernel) (by decide +kernel) (by decide +kernel) hS h
      have h := sp_onk (i := .iload 6) (by decide +kernel) rfl h
      have h := sp_bipush (n := 12) (v := 12) (by decide +kernel) (by decide +kernel) h
      have h := sp_onk (i := .imul) (by decide +kernel) rfl h
      have h := sp_onk (i := .iload 4) (by decide +kernel) rfl h
      have h := sp_onk (i := .iadd) (by decide +kernel) rfl h
      have h := sp_onk (i := .dup2) (by decide +kernel) rfl h
      obtain ⟨hi, h⟩ := sp_iald (by decide +kernel) h
      refine ⟨hi, ?_⟩
      have h := sp_onk (i := .iload_n 3) (by decide +kernel) rfl h
      have h := sp_onk (i := .isub) (by decide +kernel) rfl h
      obtain ⟨hi, h⟩ := sp_iast (by decide +kernel) h
      refine ⟨hi, ?_⟩
      intro w1 ew1
      rw [← ew1] at h
      have hSw1 : SK w1 := by rw [ew1]; exact SK_aS hS
      have h := sp_onk (i := .aload_n 0) (by decide +kernel) rfl h
      have h := sp_getR (jj := 11) (ci := 0) (n := 0) (by decide +kernel) (by decide +kernel) (by decide +kernel) hSw1 h
      have h := sp_onk (i := .iload 4) (by decide +kernel) rfl h
      have h := sp_bipush (n := 12) (v := 12) (by decide +kernel) (by decide +kernel) h
      have h := sp_onk (i := .imul) (by decide +kernel) rfl h
      have h := sp_onk (i := .iload 6) (by decide +kernel) rfl h
      have h := sp_onk (i := .iadd) (by decide +kernel) rfl h
      have h := sp_onk (i := .dup2) (by decide +kernel) rfl h
      obtain ⟨hi, h⟩ := sp_iald (by decide +kernel) h
      refine ⟨hi, ?_⟩
      have h := sp_onk (i := .iload_n 3) (by decide +kernel) rfl h
      have h := sp_onk (i := .iadd) (by decide +kernel) rfl h
      obtain ⟨hi, h⟩ := sp_iast (by decide +kernel) h
      refine ⟨hi, ?_⟩
      intro w2 ew2
      rw [← ew2] at h
      have hSw2 : SK w2 := by rw [ew2]; exact SK_aS hSw1
      have h := sp_onk (i := .iload 6) (by decide +kernel) rfl h
      have h := sp_istore (j := 4) (ls' := [.ref o0, .int i1, .int i2, .int i3, .int (aG w (gR w o0 1) i4), .int i5, .int (aG w (gR w o0 1) i4)]) (by decide +kernel) (Nat.le_of_ble_eq_true rfl) rfl h
      have h := sp_iinc (j := 5) (n := 1) (v := 1) (ls' := [.ref o0, .int i1, .int i2, .int i3, .int (aG w (gR w o0 1) i4), .int (i5 + 1), .int (aG w (gR w o0 1) i4)]) (by decide +kernel) rfl (by decide +kernel) rfl h
      have h := sp_goto (mi := 166) (pc := 129) (off := (-63)) (t := 66) (by decide +kernel) (by decide) rfl h
      exact h
set_option maxRecDepth 20000 in
set_option maxHeartbeats 2000000 in
theorem U169_0 {X : pm_X} {k : Nat} {w w' : pm_W} {r : Option Value} {p1 : Int32} {p2 : Int32} (hS : SK w) (h : PS X (k + 1) 169 0 [.ref 68, .int p1, .int p2] [] w r w') : ∃ (r1 : Option Value) (w2 : pm_W), PS X k 170 0 [.ref 68, .int p1, pm_dead, pm_dead, pm_dead, pm_dead, pm_dead, pm_dead] [] w r1 w2 ∧ (∀ x3 : Int32, r1 = some (.int x3) → SK w2 → (if x3 = 0 then (∃ (r4 : Option Value) (w5 : pm_W), PS X k 171 0 [.ref 68, .int p2, pm_dead, pm_dead, pm_dead] [] w2 r4 w5 ∧ (∀ x6 : Int32, r4 = some (.int x6) → SK w5 → (if x6 = 0 then (r = some (.int 1) ∧ w' = w5) else (r = some (.int 0) ∧ w' = w5)))) else (r = some (.int 0) ∧ w' = w2))) := by
  have h := sp_one (i := .aload_n 0) (by decide +kernel) rfl h
  have h := sp_onk (i := .iload_n 1) (by decide +kernel) rfl h
  obtain ⟨r1, w2, hc, h⟩ := sp_callV (jj := 97) (mj := 170) (n := 1) (v := .ref 68) (args := [.int p1]) (ls' := [.ref 68, .int p1, pm_dead, pm_dead, pm_dead, pm_dead, pm_dead, pm_dead]) (by decide +kernel) (by decide +kernel) rfl rfl rfl h
  refine ⟨r1, w2, hc, fun x3 er hSw2 => ?_⟩
  subst er
  have h : PS X k 169 5 [.ref 68, .int p1, .int p2] [.int x3] w2 r w' := h
  rcases sp_if_ne (mi := 169) (pc := 5) (off := 15) (t := 20) (by decide +kernel) (by decide) rfl h with ⟨hc, h⟩ | ⟨hc, h⟩
  · refine ite_f hc ?_
    have h := sp_iconst (n := 0) (v := 0) (by decide +kernel) (by decide +kernel) h
    exact sp_iret (by decide +kernel) h
  · refine ite_t (Classical.not_not.mp hc) ?_
    have h := sp_onk (i := .aload_n 0) (by decide +kernel) rfl h
    have h := sp_onk (i := .iload_n 2) (by decide +kernel) rfl h
    obtain ⟨r4, w5, hc, h⟩ := sp_callV (jj := 101) (mj := 171) (n := 1) (v := .ref 68) (args := [.int p2]) (ls' := [.ref 68, .int p2, pm_dead, pm_dead, pm_dead]) (by decide +kernel) (by decide +kernel) rfl rfl rfl h
    refine ⟨r4, w5, hc, fun x6 er hSw5 => ?_⟩
    subst er
    have h : PS X k 169 13 [.ref 68, .int p1, .int p2] [.int x6] w5 r w' := h
    rcases sp_if_ne (mi := 169) (pc := 13) (off := 7) (t := 20) (by decide +kernel) (by decide) rfl h with ⟨hc, h⟩ | ⟨hc, h⟩
    · refine ite_f hc ?_
      have h := sp_iconst (n := 0) (v := 0) (by decide +kernel) (by decide +kernel) h
      exact sp_iret (by decide +kernel) h
    · refine ite_t (Classical.not_not.mp hc) ?_
      have h := sp_iconst (n := 1) (v := 1) (by decide +kernel) (by decide +kernel) h
      have h := sp_goto (mi := 169) (pc := 17) (off := 4) (t := 21) (by decide +kernel) (by decide) rfl h
      exact sp_iret (by decide +kernel) h
set_option maxRecDepth 20000 in
set_option maxHeartbeats 2000000 in
theorem U170_0 {X : pm_X} {k : Nat} {w w' : pm_W} {r : Option Value} {p1 : Int32} (hS : SK w) (h : PS X (k + 1) 170 0 [.ref 68, .int p1, pm_dead, pm_dead, pm_dead, pm_dead, pm_dead, pm_dead] [] w r w') : ∃ (r1 : Option Value) (w2 : pm_W), PS X k 20 0 [.ref 75, .int 0, pm_dead, pm_dead] [] w r1 w2 ∧ (r1 = none → SK w2 → (∃ (r3 : Option Value) (w4 : pm_W), PS X k 20 0 [.ref 76, .int 0, pm_dead, pm_dead] [] w2 r3 w4 ∧ (r3 = none → SK w4 → (PS X k 170 20 [.ref 68, .int p1, .int 0, .int 0, pm_dead, pm_dead, pm_dead, pm_dead] [] w4 r w')))) := by
  have h := sp_one (i := .aload_n 0) (by decide +kernel) rfl h
  have h := sp_getK (jj := 22) (ci := 10) (n := 2) (b := 75) (by decide +kernel) (by decide +kernel) (by decide +kernel) (by decide +kernel) (by decide) hS h
  have h := sp_iconst (n := 0) (v := 0) (by decide +kernel) (by decide +kernel) h
  obtain ⟨r1, w2, hc, h⟩ := sp_callS (jj := 82) (mj := 20) (n := 2) (args := [.int 0, .ref 75]) (ls' := [.ref 75, .int 0, pm_dead, pm_dead]) (by decide +kernel) (by decide +kernel) (by decide +kernel) rfl rfl rfl h
  refine ⟨r1, w2, hc, fun er hSw2 => ?_⟩
  subst er
  have h : PS X k 170 8 [.ref 68, .int p1, pm_dead, pm_dead, pm_dead, pm_dead, pm_dead, pm_dead] [] w2 r w' := h
  have h := sp_onk (i := .aload_n 0) (by decide +kernel) rfl h
  have h := sp_getK (jj := 25) (ci := 10) (n := 3) (b := 76) (by decide +kernel) (by decide +kernel) (by decide +kernel) (by decide +kernel) (by decide) hSw2 h
  have h := sp_iconst (n := 0) (v := 0) (by decide +kernel) (by decide +kernel) h
  obtain ⟨r3, w4, hc, h⟩ := sp_callS (jj := 82) (mj := 20) (n := 2) (args := [.int 0, .ref 76]) (ls' := [.ref 76, .int 0, pm_dead, pm_dead]) (by decide +kernel) (by decide +kernel) (by decide +kernel) rfl rfl rfl h
  refine ⟨r3, w4, hc, fun er hSw4 => ?_⟩
  subst er
  have h : PS X k 170 16 [.ref 68, .int p1, pm_dead, pm_dead, pm_dead, pm_dead, pm_dead, pm_dead] [] w4 r w' := h
  have h := sp_iconst (n := 0) (v := 0) (by decide +kernel) (by decide +kernel) h
  have h := sp_istore_n (j := 2) (ls' := [.ref 68, .int p1, .int 0, pm_dead, pm_dead, pm_dead, pm_dead, pm_dead]) (by decide +kernel) (Nat.le_of_ble_eq_true rfl) rfl h
  have h := sp_iconst (n := 0) (v := 0) (by decide +kernel) (by decide +kernel) h
  have h := sp_istore_n (j := 3) (ls' := [.ref 68, .int p1, .int 0, .int 0, pm_dead, pm_dead, pm_dead, pm_dead]) (by decide +kernel) (Nat.le_of_ble_eq_true rfl) rfl h
  exact h
set_option maxRecDepth 20000 in
set_option maxHeartbeats 2000000 in
theorem U170_20 {X : pm_X} {k : Nat} {w w' : pm_W} {r : Option Value} {i1 : Int32} {i2 : Int32} {i3 : Int32} {u4 : Value} {u5 : Value} {u6 : Value} {u7 : Value} (hS : SK w) (h : PS X (k + 1) 170 20 [.ref 68, .int i1, .int i2, .int i3, u4, u5, u6, u7] [] w r w') : if (gI w (gR w 68 0) 2) ≤ i3 then (r = some (.int i2) ∧ w' = w) else (∃ (r1 : Option Value) (w2 : pm_W), PS X k 89 0 [.int i1, .int i3] [] w r1 w2 ∧ (∀ x3 : Int32, r1 = some (.int x3) → SK w2 → (if x3 = 0 then (PS X k 170 20 [.ref 68, .int i1, .int i2, .int (i3 + 1), u4, u5, u6, u7] [] w2 r w') else (∃ (r4 : Option Value) (w5 : pm_W), PS X k 65 0 [.ref (gR w2 68 0), .int i3, .int 2] [] w2 r4 w5 ∧ (∀ x6 : Int32, r4 = some (.int x6) → SK w5 → (∃ (r7 : Option Value) (w8 : pm_W), PS X k 65 0 [.ref (gR w5 68 0), .int i3, .int 0] [] w5 r7 w8 ∧ (∀ x9 : Int32, r7 = some (.int x9) → SK w8 → (∃ (r10 : Option Value) (w11 : pm_W), PS X k 65 0 [.ref (gR w8 68 0), .int i3, .int 1] [] w8 r10 w11 ∧ (∀ x12 : Int32, r10 = some (.int x12) → SK w11 → (∃ (r13 : Option Value) (w14 : pm_W), PS X k 52 0 [.int x9, .int x12] [] w11 r13 w14 ∧ (∀ x15 : Int32, r13 = some (.int x15) → SK w14 → (aI w14 75 x15 ∧ (∃ (r16 : Option Value) (w17 : pm_W), PS X k 52 0 [.int x9, .int x12] [] w14 r16 w17 ∧ (∀ x18 : Int32, r16 = some (.int x18) → SK w17 → (aI w17 74 x18 ∧ (∃ (r19 : Option Value) (w20 : pm_W), PS X k 52 0 [.int x9, .int x12] [] w17 r19 w20 ∧ (∀ x21 : Int32, r19 = some (.int x21) → SK w20 → (aI w20 75 x21 ∧ (aI w20 75 x21 ∧ (∀ w22 : pm_W, w22 = aS w20 75 x21 ((aG w20 75 x21) + x6) → (∃ (r23 : Option Value) (w24 : pm_W), PS X k 52 0 [.int x9, .int x12] [] w22 r23 w24 ∧ (∀ x25 : Int32, r23 = some (.int x25) → SK w24 → (aI w24 75 x25 ∧ (∃ (r26 : Option Value) (w27 : pm_W), PS X k 52 0 [.int x9, .int x12] [] w24 r26 w27 ∧ (∀ x28 : Int32, r26 = some (.int x28) → SK w27 → (aI w27 74 x28 ∧ (aI w27 76 x9 ∧ (aI w27 76 x9 ∧ (∀ w29 : pm_W, w29 = aS w27 76 x9 ((aG w27 76 x9) - x6) → (aI w29 76 x12 ∧ (aI w29 76 x12 ∧ (∀ w30 : pm_W, w30 = aS w29 76 x12 ((aG w29 76 x12) + x6) → (PS X k 170 20 [.ref 68, .int i1, .int (i2 + ((if 0 < ((aG w24 75 x25) - (aG w27 74 x28)) then ((aG w24 75 x25) - (aG w27 74 x28)) else 0) - (if 0 < ((aG w14 75 x15) - (aG w17 74 x18)) then ((aG w14 75 x15) - (aG w17 74 x18)) else 0))), .int (i3 + 1), .int x6, .int x9, .int x12, .int (if 0 < ((aG w14 75 x15) - (aG w17 74 x18)) then ((aG w14 75 x15) - (aG w17 74 x18)) else 0)] [] w30 r w'))))))))))))))))))))))))))))))))) := by
  have h := sp_one (i := .iload_n 3) (by decide +kernel) rfl h
  have h := sp_onk (i := .aload_n 0) (by decide +kernel) rfl h
  have h := sp_getR (jj := 12) (ci := 10) (n := 0) (by decide +kernel) (by decide +kernel) (by decide +kernel) hS h
  have h := sp_getI (jj := 60) (ci := 9) (n := 2) (by decide +kernel) (by decide +kernel) (by decide +kernel) hS h
  rcases sp_icmp_ge (mi := 170) (pc := 28) (off := 157) (t := 185) (by decide +kernel) (by decide) rfl h with ⟨hc, h⟩ | ⟨hc, h⟩
  · refine ite_t hc ?_
    have h := sp_onk (i := .iload_n 2) (by decide +kernel) rfl h
    exact sp_iret (by decide +kernel) h
  · refine ite_f hc ?_
    have h := sp_onk (i := .iload_n 1) (by decide +kernel) rfl h
    have h := sp_onk (i := .iload_n 3) (by decide +kernel) rfl h
    obtain ⟨r1, w2, hc, h⟩ := sp_callS (jj := 88) (mj := 89) (n := 2) (args := [.int i3, .int i1]) (ls' := [.int i1, .int i3]) (by decide +kernel) (by decide +kernel) (by decide +kernel) rfl rfl rfl h
    refine ⟨r1, w2, hc, fun x3 er hSw2 => ?_⟩
    subst er
    have h : PS X k 170 36 [.ref 68, .int i1, .int i2, .int i3, u4, u5, u6, u7] [.int x3] w2 r w' := h
    rcases sp_if_eq (mi := 170) (pc := 36) (off := 143) (t := 179) (by decide +kernel) (by decide) rfl h with ⟨hc, h⟩ | ⟨hc, h⟩
    · refine ite_t hc ?_
      have h := sp_iinc (j := 3) (n := 1) (v := 1) (ls' := [.ref 68, .int i1, .int i2, .int (i3 + 1), u4, u5, u6, u7]) (by decide +kernel) rfl (by decide +kernel) rfl h
      have h := sp_goto (mi := 170) (pc := 182) (off := (-162)) (t := 20) (by decide +kernel) (by decide) rfl h
      exact h
    · refine ite_f hc ?_
      have h := sp_onk (i := .aload_n 0) (by decide +kernel) rfl h
      have h := sp_getR (jj := 12) (ci := 10) (n := 0) (by decide +kernel) (by decide +kernel) (by decide +kernel) hSw2 h
      have h := sp_onk (i := .iload_n 3) (by decide +kernel) rfl h
      have h := sp_iconst (n := 2) (v := 2) (by decide +kernel) (by decide +kernel) h
      obtain ⟨r4, w5, hc, h⟩ := sp_callV (jj := 66) (mj := 65) (n := 2) (v := .ref (gR w2 68 0)) (args := [.int 2, .int i3]) (ls' := [.ref (gR w2 68 0), .int i3, .int 2]) (by decide +kernel) (by decide +kernel) rfl rfl rfl h
      refine ⟨r4, w5, hc, fun x6 er hSw5 => ?_⟩
      subst er
      have h : PS X k 170 48 [.ref 68, .int i1, .int i2, .int i3, u4, u5, u6, u7] [.int x6] w5 r w' := h
      have h := sp_istore (j := 4) (ls' := [.ref 68, .int i1, .int i2, .int i3, .int x6, u5, u6, u7]) (by decide +kernel) (Nat.le_of_ble_eq_true rfl) rfl h
      have h := sp_onk (i := .aload_n 0) (by decide +kernel) rfl h
      have h := sp_getR (jj := 12) (ci := 10) (n := 0) (by decide +kernel) (by decide +kernel) (by decide +kernel) hSw5 h
      have h := sp_onk (i := .iload_n 3) (by decide +kernel) rfl h
      have h := sp_iconst (n := 0) (v := 0) (by decide +kernel) (by decide +kernel) h
      obtain ⟨r7, w8, hc, h⟩ := sp_callV (jj := 66) (mj := 65) (n := 2) (v := .ref (gR w5 68 0)) (args := [.int 0, .int i3]) (ls' := [.ref (gR w5 68 0), .int i3, .int 0]) (by decide +kernel) (by decide +kernel) rfl rfl rfl h
      refine ⟨r7, w8, hc, fun x9 er hSw8 => ?_⟩
      subst er
      have h : PS X k 170 59 [.ref 68, .int i1, .int i2, .int i3, .int x6, u5, u6, u7] [.int x9] w8 r w' := h
      have h := sp_istore (j := 5) (ls' := [.ref 68, .int i1, .int i2, .int i3, .int x6, .int x9, u6, u7]) (by decide +kernel) (Nat.le_of_ble_eq_true rfl) rfl h
      have h := sp_onk (i := .aload_n 0) (by decide +kernel) rfl h
      have h := sp_getR (jj := 12) (ci := 10) (n := 0) (by decide +kernel) (by decide +kernel) (by decide +kernel) hSw8 h
      have h := sp_onk (i := .iload_n 3) (by decide +kernel) rfl h
      have h := sp_iconst (n := 1) (v := 1) (by decide +kernel) (by decide +kernel) h
      obtain ⟨r10, w11, hc, h⟩ := sp_callV (jj := 66) (mj := 65) (n := 2) (v := .ref (gR w8 68 0)) (args := [.int 1, .int i3]) (ls' := [.ref (gR w8 68 0), .int i3, .int 1]) (by decide +kernel) (by decide +kernel) rfl rfl rfl h
      refine ⟨r10, w11, hc, fun x12 er hSw11 => ?_⟩
      subst er
      have h : PS X k 170 70 [.ref 68, .int i1, .int i2, .int i3, .int x6, .int x9, u6, u7] [.int x12] w11 r w' := h
      have h := sp_istore (j := 6) (ls' := [.ref 68, .int i1, .int i2, .int i3, .int x6, .int x9, .int x12, u7]) (by decide +kernel) (Nat.le_of_ble_eq_true rfl) rfl h
      have h := sp_iconst (n := 0) (v := 0) (by decide +kernel) (by decide +kernel) h
      have h := sp_onk (i := .aload_n 0) (by decide +kernel) rfl h
      have h := sp_getK (jj := 22) (ci := 10) (n := 2) (b := 75) (by decide +kernel) (by decide +kernel) (by decide +kernel) (by decide +kernel) (by decide) hSw11 h
      have h := sp_onk (i := .iload 5) (by decide +kernel) rfl h
      have h := sp_onk (i := .iload 6) (by decide +kernel) rfl h
      obtain ⟨r13, w14, hc, h⟩ := sp_callS (jj := 53) (mj := 52) (n := 2) (args := [.int x12, .int x9]) (ls' := [.int x9, .int x12]) (by decide +kernel) (by decide +kernel) (by decide +kernel) rfl rfl rfl h
      refine ⟨r13, w14, hc, fun x15 er hSw14 => ?_⟩
      subst er
      have h : PS X k 170 84 [.ref 68, .int i1, .int i2, .int i3, .int x6, .int x9, .int x12, u7] [.int x15, .ref 75, .int 0] w14 r w' := h
      obtain ⟨hi, h⟩ := sp_iald (by decide +kernel) h
      refine ⟨hi, ?_⟩
      have h := sp_onk (i := .aload_n 0) (by decide +kernel) rfl h
      have h := sp_getK (jj := 18) (ci := 10) (n := 1) (b := 74) (by decide +kernel) (by decide +kernel) (by decide +kernel) (by decide +kernel) (by decide) hSw14 h
      have h := sp_onk (i := .iload 5) (by decide +kernel) rfl h
      have h := sp_onk (i := .iload 6) (by decide +kernel) rfl h
      obtain ⟨r16, w17, hc, h⟩ := sp_callS (jj := 53) (mj := 52) (n := 2) (args := [.int x12, .int x9]) (ls' := [.int x9, .int x12]) (by decide +kernel) (by decide +kernel) (by decide +kernel) rfl rfl rfl h
      refine ⟨r16, w17, hc, fun x18 er hSw17 => ?_⟩
      subst er
      have h : PS X k 170 96 [.ref 68, .int i1, .int i2, .int i3, .int x6, .int x9, .int x12, u7] [.int x18, .ref 74, .int (aG w14 75 x15), .int 0] w17 r w' := h
      obtain ⟨hi, h⟩ := sp_iald (by decide +kernel) h
      refine ⟨hi, ?_⟩
      have h := sp_onk (i := .isub) (by decide +kernel) rfl h
      have h := sp_max (j := 92) (by decide +kernel) (by decide +kernel) (by decide +kernel) h
      have h := sp_istore (j := 7) (ls' := [.ref 68, .int i1, .int i2, .int i3, .int x6, .int x9, .int x12, .int (if 0 < ((aG w14 75 x15) - (aG w17 74 x18)) then ((aG w14 75 x15) - (aG w17 74 x18)) else 0)]) (by decide +kernel) (Nat.le_of_ble_eq_true rfl) rfl h
      have h := sp_onk (i := .aload_n 0) (by decide +kernel) rfl h
      have h := sp_getK (jj := 22) (ci := 10) (n := 2) (b := 75) (by decide +kernel) (by decide +kernel) (by decide +kernel) (by decide +kernel) (by decide) hSw17 h
      have h := sp_onk (i := .iload 5) (by decide +kernel) rfl h
      have h := sp_onk (i := .iload 6) (by decide +kernel) rfl h
      obtain ⟨r19, w20, hc, h⟩ := sp_callS (jj := 53) (mj := 52) (n := 2) (args := [.int x12, .int x9]) (ls' := [.int x9, .int x12]) (by decide +kernel) (by decide +kernel) (by decide +kernel) rfl rfl rfl h
      refine ⟨r19, w20, hc, fun x21 er hSw20 => ?_⟩
      subst er
      have h : PS X k 170 114 [.ref 68, .int i1, .int i2, .int i3, .int x6, .int x9, .int x12, .int (if 0 < ((aG w14 75 x15) - (aG w17 74 x18)) then ((aG w14 75 x15) - (aG w17 74 x18)) else 0)] [.int x21, .ref 75] w20 r w' := h
      have h := sp_onk (i := .dup2) (by decide +kernel) rfl h
      obtain ⟨hi, h⟩ := sp_iald (by decide +kernel) h
      refine ⟨hi, ?_⟩
      have h := sp_onk (i := .iload 4) (by decide +kernel) rfl h
      have h := sp_onk (i := .iadd) (by decide +kernel) rfl h
      obtain ⟨hi, h⟩ := sp_iast (by decide +kernel) h
      refine ⟨hi, ?_⟩
      intro w22 ew22
      rw [← ew22] at h
      have hSw22 : SK w22 := by rw [ew22]; exact SK_aS hSw20
      have h := sp_onk (i := .iload_n 2) (by decide +kernel) rfl h
      have h := sp_iconst (n := 0) (v := 0) (by decide +kernel) (by decide +kernel) h
      have h := sp_onk (i := .aload_n 0) (by decide +kernel) rfl h
      have h := sp_getK (jj := 22) (ci := 10) (n := 2) (b := 75) (by decide +kernel) (by decide +kernel) (by decide +kernel) (by decide +kernel) (by decide) hSw22 h
      have h := sp_onk (i := .iload 5) (by decide +kernel) rfl h
      have h := sp_onk (i := .iload 6) (by decide +kernel) rfl h
      obtain ⟨r23, w24, hc, h⟩ := sp_callS (jj := 53) (mj := 52) (n := 2) (args := [.int x12, .int x9]) (ls' := [.int x9, .int x12]) (by decide +kernel) (by decide +kernel) (by decide +kernel) rfl rfl rfl h
      refine ⟨r23, w24, hc, fun x25 er hSw24 => ?_⟩
      subst er
      have h : PS X k 170 133 [.ref 68, .int i1, .int i2, .int i3, .int x6, .int x9, .int x12, .int (if 0 < ((aG w14 75 x15) - (aG w17 74 x18)) then ((aG w14 75 x15) - (aG w17 74 x18)) else 0)] [.int x25, .ref 75, .int 0, .int i2] w24 r w' := h
      obtain ⟨hi, h⟩ := sp_iald (by decide +kernel) h
      refine ⟨hi, ?_⟩
      have h := sp_onk (i := .aload_n 0) (by decide +kernel) rfl h
      have h := sp_getK (jj := 18) (ci := 10) (n := 1) (b := 74) (by decide +kernel) (by decide +kernel) (by decide +kernel) (by decide +kernel) (by decide) hSw24 h
      have h := sp_onk (i := .iload 5) (by decide +kernel) rfl h
      have h := sp_onk (i := .iload 6) (by decide +kernel) rfl h
      obtain ⟨r26, w27, hc, h⟩ := sp_callS (jj := 53) (mj := 52) (n := 2) (args := [.int x12, .int x9]) (ls' := [.int x9, .int x12]) (by decide +kernel) (by decide +kernel) (by decide +kernel) rfl rfl rfl h
      refine ⟨r26, w27, hc, fun x28 er hSw27 => ?_⟩
      subst er
      have h : PS X k 170 145 [.ref 68, .int i1, .int i2, .int i3, .int x6, .int x9, .int x12, .int (if 0 < ((aG w14 75 x15) - (aG w17 74 x18)) then ((aG w14 75 x15) - (aG w17 74 x18)) else 0)] [.int x28, .ref 74, .int (aG w24 75 x25), .int 0, .int i2] w27 r w' := h
      obtain ⟨hi, h⟩ := sp_iald (by decide +kernel) h
      refine ⟨hi, ?_⟩
      have h := sp_onk (i := .isub) (by decide +kernel) rfl h
      have h := sp_max (j := 92) (by decide +kernel) (by decide +kernel) (by decide +kernel) h
      have h := sp_onk (i := .iload 7) (by decide +kernel) rfl h
      have h := sp_onk (i := .isub) (by decide +kernel) rfl h
      have h := sp_onk (i := .iadd) (by decide +kernel) rfl h
      have h := sp_istore_n (j := 2) (ls' := [.ref 68, .int i1, .int (i2 + ((if 0 < ((aG w24 75 x25) - (aG w27 74 x28)) then ((aG w24 75 x25) - (aG w27 74 x28)) else 0) - (if 0 < ((aG w14 75 x15) - (aG w17 74 x18)) then ((aG w14 75 x15) - (aG w17 74 x18)) else 0))), .int i3, .int x6, .int x9, .int x12, .int (if 0 < ((aG w14 75 x15) - (aG w17 74 x18)) then ((aG w14 75 x15) - (aG w17 74 x18)) else 0)]) (by decide +kernel) (Nat.le_of_ble_eq_true rfl) rfl h
      have h := sp_onk (i := .aload_n 0) (by decide +kernel) rfl h
      have h := sp_getK (jj := 25) (ci := 10) (n := 3) (b := 76) (by decide +kernel) (by decide +kernel) (by decide +kernel) (by decide +kernel) (by decide) hSw27 h
      have h := sp_onk (i := .iload 5) (by decide +kernel) rfl h
      have h := sp_onk (i := .dup2) (by decide +kernel) rfl h
      obtain ⟨hi, h⟩ := sp_iald (by decide +kernel) h
      refine ⟨hi, ?_⟩
      have h := sp_onk (i := .iload 4) (by decide +kernel) rfl h
      have h := sp_onk (i := .isub) (by decide +kernel) rfl h
      obtain ⟨hi, h⟩ := sp_iast (by decide +kernel) h
      refine ⟨hi, ?_⟩
      intro w29 ew29
      rw [← ew29] at h
      have hSw29 : SK w29 := by rw [ew29]; exact SK_aS hSw27
      have h := sp_onk (i := .aload_n 0) (by decide +kernel) rfl h
      have h := sp_getK (jj := 25) (ci := 10) (n := 3) (b := 76) (by decide +kernel) (by decide +kernel) (by decide +kernel) (by decide +kernel) (by decide) hSw29 h
      have h := sp_onk (i := .iload 6) (by decide +kernel) rfl h
      have h := sp_onk (i := .dup2) (by decide +kernel) rfl h
      obtain ⟨hi, h⟩ := sp_iald (by decide +kernel) h
      refine ⟨hi, ?_⟩
      have h := sp_onk (i := .iload 4) (by decide +kernel) rfl h
      have h := sp_onk (i := .iadd) (by decide +kernel) rfl h
      obtain ⟨hi, h⟩ := sp_iast (by decide +kernel) h
      refine ⟨hi, ?_⟩
      intro w30 ew30
      rw [← ew30] at h
      have hSw30 : SK w30 := by rw [ew30]; exact SK_aS hSw29
      have h := sp_iinc (j := 3) (n := 1) (v := 1) (ls' := [.ref 68, .int i1, .int (i2 + ((if 0 < ((aG w24 75 x25) - (aG w27 74 x28)) then ((aG w24 75 x25) - (aG w27 74 x28)) else 0) - (if 0 < ((aG w14 75 x15) - (aG w17 74 x18)) then ((aG w14 75 x15) - (aG w17 74 x18)) else 0))), .int (i3 + 1), .int x6, .int x9, .int x12, .int (if 0 < ((aG w14 75 x15) - (aG w17 74 x18)) then ((aG w14 75 x15) - (aG w17 74 x18)) else 0)]) (by decide +kernel) rfl (by decide +kernel) rfl h
      have h := sp_goto (mi := 170) (pc := 182) (off := (-162)) (t := 20) (by decide +kernel) (by decide) rfl h
      exact h
set_option maxRecDepth 20000 in
set_option maxHeartbeats 2000000 in
theorem U171_0 {X : pm_X} {k : Nat} {w w' : pm_W} {r : Option Value} {p1 : Int32} (hS : SK w) (h : PS X (k + 1) 171 0 [.ref 68, .int p1, pm_dead, pm_dead, pm_dead] [] w r w') : ∃ (r1 : Option Value) (w2 : pm_W), PS X k 162 0 [.ref 79] [] w r1 w2 ∧ (r1 = none → SK w2 → (PS X k 171 11 [.ref 68, .int p1, .int 0, .int 0, pm_dead] [] w2 r w')) := by
  have h := sp_one (i := .aload_n 0) (by decide +kernel) rfl h
  have h := sp_getK (jj := 38) (ci := 10) (n := 6) (b := 79) (by decide +kernel) (by decide +kernel) (by decide +kernel) (by decide +kernel) (by decide) hS h
  obtain ⟨r1, w2, hc, h⟩ := sp_callV (jj := 69) (mj := 162) (n := 0) (v := .ref 79) (args := []) (ls' := [.ref 79]) (by decide +kernel) (by decide +kernel) rfl rfl rfl h
  refine ⟨r1, w2, hc, fun er hSw2 => ?_⟩
  subst er
  have h : PS X k 171 7 [.ref 68, .int p1, pm_dead, pm_dead, pm_dead] [] w2 r w' := h
  have h := sp_iconst (n := 0) (v := 0) (by decide +kernel) (by decide +kernel) h
  have h := sp_istore_n (j := 2) (ls' := [.ref 68, .int p1, .int 0, pm_dead, pm_dead]) (by decide +kernel) (Nat.le_of_ble_eq_true rfl) rfl h
  have h := sp_iconst (n := 0) (v := 0) (by decide +kernel) (by decide +kernel) h
  have h := sp_istore_n (j := 3) (ls' := [.ref 68, .int p1, .int 0, .int 0, pm_dead]) (by decide +kernel) (Nat.le_of_ble_eq_true rfl) rfl h
  exact h
set_option maxRecDepth 20000 in
set_option maxHeartbeats 2000000 in
theorem U171_11 {X : pm_X} {k : Nat} {w w' : pm_W} {r : Option Value} {i1 : Int32} {i2 : Int32} {i3 : Int32} {u4 : Value} (hS : SK w) (h : PS X (k + 1) 171 11 [.ref 68, .int i1, .int i2, .int i3, u4] [] w r w') : if (gI w (gR w 68 0) 0) ≤ i3 then (∃ (r1 : Option Value) (w2 : pm_W), PS X k 164 0 [.ref 79, .int 10, .int 11, pm_dead, pm_dead] [] w r1 w2 ∧ (∀ x3 : Int32, r1 = some (.int x3) → SK w2 → (r = some (.int (i2 - x3)) ∧ w' = w2))) else (PS X k 171 25 [.ref 68, .int i1, .int i2, .int i3, .int 0] [] w r w') := by
  have h := sp_one (i := .iload_n 3) (by decide +kernel) rfl h
  have h := sp_onk (i := .aload_n 0) (by decide +kernel) rfl h
  have h := sp_getR (jj := 12) (ci := 10) (n := 0) (by decide +kernel) (by decide +kernel) (by decide +kernel) hS h
  have h := sp_getI (jj := 49) (ci := 9) (n := 0) (by decide +kernel) (by decide +kernel) (by decide +kernel) hS h
  rcases sp_icmp_ge (mi := 171) (pc := 19) (off := 143) (t := 162) (by decide +kernel) (by decide) rfl h with ⟨hc, h⟩ | ⟨hc, h⟩
  · refine ite_t hc ?_
    have h := sp_onk (i := .iload_n 2) (by decide +kernel) rfl h
    have h := sp_onk (i := .aload_n 0) (by decide +kernel) rfl h
    have h := sp_getK (jj := 38) (ci := 10) (n := 6) (b := 79) (by decide +kernel) (by decide +kernel) (by decide +kernel) (by decide +kernel) (by decide) hS h
    have h := sp_bipush (n := 10) (v := 10) (by decide +kernel) (by decide +kernel) h
    have h := sp_bipush (n := 11) (v := 11) (by decide +kernel) (by decide +kernel) h
    obtain ⟨r1, w2, hc, h⟩ := sp_callV (jj := 76) (mj := 164) (n := 2) (v := .ref 79) (args := [.int 11, .int 10]) (ls' := [.ref 79, .int 10, .int 11, pm_dead, pm_dead]) (by decide +kernel) (by decide +kernel) rfl rfl rfl h
    refine ⟨r1, w2, hc, fun x3 er hSw2 => ?_⟩
    subst er
    have h : PS X k 171 174 [.ref 68, .int i1, .int i2, .int i3, u4] [.int x3, .int i2] w2 r w' := h
    have h := sp_onk (i := .isub) (by decide +kernel) rfl h
    exact sp_iret (by decide +kernel) h
  · refine ite_f hc ?_
    have h := sp_iconst (n := 0) (v := 0) (by decide +kernel) (by decide +kernel) h
    have h := sp_istore (j := 4) (ls' := [.ref 68, .int i1, .int i2, .int i3, .int 0]) (by decide +kernel) (Nat.le_of_ble_eq_true rfl) rfl h
    exact h
set_option maxRecDepth 20000 in
set_option maxHeartbeats 2000000 in
theorem U171_25 {X : pm_X} {k : Nat} {w w' : pm_W} {r : Option Value} {i1 : Int32} {i2 : Int32} {i3 : Int32} {i4 : Int32} (hS : SK w) (h : PS X (k + 1) 171 25 [.ref 68, .int i1, .int i2, .int i3, .int i4] [] w r w') : if (gI w (gR w 68 0) 0) ≤ i4 then (∃ (r1 : Option Value) (w2 : pm_W), PS X k 163 0 [.ref 79, .int i3, .int 9, .int i1] [] w r1 w2 ∧ (r1 = none → SK w2 → (∃ (r3 : Option Value) (w4 : pm_W), PS X k 163 0 [.ref 79, .int 9, .int i3, .int i1] [] w2 r3 w4 ∧ (r3 = none → SK w4 → (aI w4 76 i3 ∧ (∃ (r5 : Option Value) (w6 : pm_W), PS X k 163 0 [.ref 79, .int 10, .int i3, .int (if 0 < (aG w4 76 i3) then (aG w4 76 i3) else 0)] [] w4 r5 w6 ∧ (r5 = none → SK w6 → (aI w6 76 i3 ∧ (∃ (r7 : Option Value) (w8 : pm_W), PS X k 163 0 [.ref 79, .int i3, .int 11, .int (if 0 < (-(aG w6 76 i3)) then (-(aG w6 76 i3)) else 0)] [] w6 r7 w8 ∧ (r7 = none → SK w8 → (aI w8 76 i3 ∧ (PS X k 171 11 [.ref 68, .int i1, .int (i2 + (if 0 < (aG w8 76 i3) then (aG w8 76 i3) else 0)), .int (i3 + 1), .int i4] [] w8 r w')))))))))))) else (∃ (r9 : Option Value) (w10 : pm_W), PS X k 52 0 [.int i3, .int i4] [] w r9 w10 ∧ (∀ x11 : Int32, r9 = some (.int x11) → SK w10 → (aI w10 74 x11 ∧ (∃ (r12 : Option Value) (w13 : pm_W), PS X k 52 0 [.int i3, .int i4] [] w10 r12 w13 ∧ (∀ x14 : Int32, r12 = some (.int x14) → SK w13 → (aI w13 75 x14 ∧ (∃ (r15 : Option Value) (w16 : pm_W), PS X k 163 0 [.ref 79, .int i3, .int i4, .int (if 0 < ((aG w10 74 x11) - (aG w13 75 x14)) then ((aG w10 74 x11) - (aG w13 75 x14)) else 0)] [] w13 r15 w16 ∧ (r15 = none → SK w16 → (PS X k 171 25 [.ref 68, .int i1, .int i2, .int i3, .int (i4 + 1)] [] w16 r w'))))))))) := by
  have h := sp_one (i := .iload 4) (by decide +kernel) rfl h
  have h := sp_onk (i := .aload_n 0) (by decide +kernel) rfl h
  have h := sp_getR (jj := 12) (ci := 10) (n := 0) (by decide +kernel) (by decide +kernel) (by decide +kernel) hS h
  have h := sp_getI (jj := 49) (ci := 9) (n := 0) (by decide +kernel) (by decide +kernel) (by decide +kernel) hS h
  rcases sp_icmp_ge (mi := 171) (pc := 34) (off := 46) (t := 80) (by decide +kernel) (by decide) rfl h with ⟨hc, h⟩ | ⟨hc, h⟩
  · refine ite_t hc ?_
    have h := sp_onk (i := .aload_n 0) (by decide +kernel) rfl h
    have h := sp_getK (jj := 38) (ci := 10) (n := 6) (b := 79) (by decide +kernel) (by decide +kernel) (by decide +kernel) (by decide +kernel) (by decide) hS h
    have h := sp_onk (i := .iload_n 3) (by decide +kernel) rfl h
    have h := sp_bipush (n := 9) (v := 9) (by decide +kernel) (by decide +kernel) h
    have h := sp_onk (i := .iload_n 1) (by decide +kernel) rfl h
    obtain ⟨r1, w2, hc, h⟩ := sp_callV (jj := 72) (mj := 163) (n := 3) (v := .ref 79) (args := [.int i1, .int 9, .int i3]) (ls' := [.ref 79, .int i3, .int 9, .int i1]) (by decide +kernel) (by decide +kernel) rfl rfl rfl h
    refine ⟨r1, w2, hc, fun er hSw2 => ?_⟩
    subst er
    have h : PS X k 171 91 [.ref 68, .int i1, .int i2, .int i3, .int i4] [] w2 r w' := h
    have h := sp_onk (i := .aload_n 0) (by decide +kernel) rfl h
    have h := sp_getK (jj := 38) (ci := 10) (n := 6) (b := 79) (by decide +kernel) (by decide +kernel) (by decide +kernel) (by decide +kernel) (by decide) hSw2 h
    have h := sp_bipush (n := 9) (v := 9) (by decide +kernel) (by decide +kernel) h
    have h := sp_onk (i := .iload_n 3) (by decide +kernel) rfl h
    have h := sp_onk (i := .iload_n 1) (by decide +kernel) rfl h
    obtain ⟨r3, w4, hc, h⟩ := sp_callV (jj := 72) (mj := 163) (n := 3) (v := .ref 79) (args := [.int i1, .int i3, .int 9]) (ls' := [.ref 79, .int 9, .int i3, .int i1]) (by decide +kernel) (by decide +kernel) rfl rfl rfl h
    refine ⟨r3, w4, hc, fun er hSw4 => ?_⟩
    subst er
    have h : PS X k 171 102 [.ref 68, .int i1, .int i2, .int i3, .int i4] [] w4 r w' := h
    have h := sp_onk (i := .aload_n 0) (by decide +kernel) rfl h
    have h := sp_getK (jj := 38) (ci := 10) (n := 6) (b := 79) (by decide +kernel) (by decide +kernel) (by decide +kernel) (by decide +kernel) (by decide) hSw4 h
    have h := sp_bipush (n := 10) (v := 10) (by decide +kernel) (by decide +kernel) h
    have h := sp_onk (i := .iload_n 3) (by decide +kernel) rfl h
    have h := sp_iconst (n := 0) (v := 0) (by decide +kernel) (by decide +kernel) h
    have h := sp_onk (i := .aload_n 0) (by decide +kernel) rfl h
    have h := sp_getK (jj := 25) (ci := 10) (n := 3) (b := 76) (by decide +kernel) (by decide +kernel) (by decide +kernel) (by decide +kernel) (by decide) hSw4 h
    have h := sp_onk (i := .iload_n 3) (by decide +kernel) rfl h
    obtain ⟨hi, h⟩ := sp_iald (by decide +kernel) h
    refine ⟨hi, ?_⟩
    have h := sp_max (j := 92) (by decide +kernel) (by decide +kernel) (by decide +kernel) h
    obtain ⟨r5, w6, hc, h⟩ := sp_callV (jj := 72) (mj := 163) (n := 3) (v := .ref 79) (args := [.int (if 0 < (aG w4 76 i3) then (aG w4 76 i3) else 0), .int i3, .int 10]) (ls' := [.ref 79, .int 10, .int i3, .int (if 0 < (aG w4 76 i3) then (aG w4 76 i3) else 0)]) (by decide +kernel) (by decide +kernel) rfl rfl rfl h
    refine ⟨r5, w6, hc, fun er hSw6 => ?_⟩
    subst er
    have h : PS X k 171 122 [.ref 68, .int i1, .int i2, .int i3, .int i4] [] w6 r w' := h
    have h := sp_onk (i := .aload_n 0) (by decide +kernel) rfl h
    have h := sp_getK (jj := 38) (ci := 10) (n := 6) (b := 79) (by decide +kernel) (by decide +kernel) (by decide +kernel) (by decide +kernel) (by decide) hSw6 h
    have h := sp_onk (i := .iload_n 3) (by decide +kernel) rfl h
    have h := sp_bipush (n := 11) (v := 11) (by decide +kernel) (by decide +kernel) h
    have h := sp_iconst (n := 0) (v := 0) (by decide +kernel) (by decide +kernel) h
    have h := sp_onk (i := .aload_n 0) (by decide +kernel) rfl h
    have h := sp_getK (jj := 25) (ci := 10) (n := 3) (b := 76) (by decide +kernel) (by decide +kernel) (by decide +kernel) (by decide +kernel) (by decide) hSw6 h
    have h := sp_onk (i := .iload_n 3) (by decide +kernel) rfl h
    obtain ⟨hi, h⟩ := sp_iald (by decide +kernel) h
    refine ⟨hi, ?_⟩
    have h := sp_onk (i := .ineg) (by decide +kernel) rfl h
    have h := sp_max (j := 92) (by decide +kernel) (by decide +kernel) (by decide +kernel) h
    obtain ⟨r7, w8, hc, h⟩ := sp_callV (jj := 72) (mj := 163) (n := 3) (v := .ref 79) (args := [.int (if 0 < (-(aG w6 76 i3)) then (-(aG w6 76 i3)) else 0), .int 11, .int i3]) (ls' := [.ref 79, .int i3, .int 11, .int (if 0 < (-(aG w6 76 i3)) then (-(aG w6 76 i3)) else 0)]) (by decide +kernel) (by decide +kernel) rfl rfl rfl h
    refine ⟨r7, w8, hc, fun er hSw8 => ?_⟩
    subst er
    have h : PS X k 171 143 [.ref 68, .int i1, .int i2, .int i3, .int i4] [] w8 r w' := h
    have h := sp_onk (i := .iload_n 2) (by decide +kernel) rfl h
    have h := sp_iconst (n := 0) (v := 0) (by decide +kernel) (by decide +kernel) h
    have h := sp_onk (i := .aload_n 0) (by decide +kernel) rfl h
    have h := sp_getK (jj := 25) (ci := 10) (n := 3) (b := 76) (by decide +kernel) (by decide +kernel) (by decide +kernel) (by decide +kernel) (by decide) hSw8 h
    have h := sp_onk (i := .iload_n 3) (by decide +kernel) rfl h
    obtain ⟨hi, h⟩ := sp_iald (by decide +kernel) h
    refine ⟨hi, ?_⟩
    have h := sp_max (j := 92) (by decide +kernel) (by decide +kernel) (by decide +kernel) h
    have h := sp_onk (i := .iadd) (by decide +kernel) rfl h
    have h := sp_istore_n (j := 2) (ls' := [.ref 68, .int i1, .int (i2 + (if 0 < (aG w8 76 i3) then (aG w8 76 i3) else 0)), .int i3, .int i4]) (by decide +kernel) (Nat.le_of_ble_eq_true rfl) rfl h
    have h := sp_iinc (j := 3) (n := 1) (v := 1) (ls' := [.ref 68, .int i1, .int (i2 + (if 0 < (aG w8 76 i3) then (aG w8 76 i3) else 0)), .int (i3 + 1), .int i4]) (by decide +kernel) rfl (by decide +kernel) rfl h
    have h := sp_goto (mi := 171) (pc := 159) (off := (-148)) (t := 11) (by decide +kernel) (by decide) rfl h
    exact h
  · refine ite_f hc ?_
    have h := sp_onk (i := .aload_n 0) (by decide +kernel) rfl h
    have h := sp_getK (jj := 38) (ci := 10) (n := 6) (b := 79) (by decide +kernel) (by decide +kernel) (by decide +kernel) (by decide +kernel) (by decide) hS h
    have h := sp_onk (i := .iload_n 3) (by decide +kernel) rfl h
    have h := sp_onk (i := .iload 4) (by decide +kernel) rfl h
    have h := sp_iconst (n := 0) (v := 0) (by decide +kernel) (by decide +kernel) h
    have h := sp_onk (i := .aload_n 0) (by decide +kernel) rfl h
    have h := sp_getK (jj := 18) (ci := 10) (n := 1) (b := 74) (by decide +kernel) (by decide +kernel) (by decide +kernel) (by decide +kernel) (by decide) hS h
    have h := sp_onk (i := .iload_n 3) (by decide +kernel) rfl h
    have h := sp_onk (i := .iload 4) (by decide +kernel) rfl h
    obtain ⟨r9, w10, hc, h⟩ := sp_callS (jj := 53) (mj := 52) (n := 2) (args := [.int i4, .int i3]) (ls' := [.int i3, .int i4]) (by decide +kernel) (by decide +kernel) (by decide +kernel) rfl rfl rfl h
    refine ⟨r9, w10, hc, fun x11 er hSw10 => ?_⟩
    subst er
    have h : PS X k 171 55 [.ref 68, .int i1, .int i2, .int i3, .int i4] [.int x11, .ref 74, .int 0, .int i4, .int i3, .ref 79] w10 r w' := h
    obtain ⟨hi, h⟩ := sp_iald (by decide +kernel) h
    refine ⟨hi, ?_⟩
    have h := sp_onk (i := .aload_n 0) (by decide +kernel) rfl h
    have h := sp_getK (jj := 22) (ci := 10) (n := 2) (b := 75) (by decide +kernel) (by decide +kernel) (by decide +kernel) (by decide +kernel) (by decide) hSw10 h
    have h := sp_onk (i := .iload_n 3) (by decide +kernel) rfl h
    have h := sp_onk (i := .iload 4) (by decide +kernel) rfl h
    obtain ⟨r12, w13, hc, h⟩ := sp_callS (jj := 53) (mj := 52) (n := 2) (args := [.int i4, .int i3]) (ls' := [.int i3, .int i4]) (by decide +kernel) (by decide +kernel) (by decide +kernel) rfl rfl rfl h
    refine ⟨r12, w13, hc, fun x14 er hSw13 => ?_⟩
    subst er
    have h : PS X k 171 66 [.ref 68, .int i1, .int i2, .int i3, .int i4] [.int x14, .ref 75, .int (aG w10 74 x11), .int 0, .int i4, .int i3, .ref 79] w13 r w' := h
    obtain ⟨hi, h⟩ := sp_iald (by decide +kernel) h
    refine ⟨hi, ?_⟩
    have h := sp_onk (i := .isub) (by decide +kernel) rfl h
    have h := sp_max (j := 92) (by decide +kernel) (by decide +kernel) (by decide +kernel) h
    obtain ⟨r15, w16, hc, h⟩ := sp_callV (jj := 72) (mj := 163) (n := 3) (v := .ref 79) (args := [.int (if 0 < ((aG w10 74 x11) - (aG w13 75 x14)) then ((aG w10 74 x11) - (aG w13 75 x14)) else 0), .int i4, .int i3]) (ls' := [.ref 79, .int i3, .int i4, .int (if 0 < ((aG w10 74 x11) - (aG w13 75 x14)) then ((aG w10 74 x11) - (aG w13 75 x14)) else 0)]) (by decide +kernel) (by decide +kernel) rfl rfl rfl h
    refine ⟨r15, w16, hc, fun er hSw16 => ?_⟩
    subst er
    have h : PS X k 171 74 [.ref 68, .int i1, .int i2, .int i3, .int i4] [] w16 r w' := h
    have h := sp_iinc (j := 4) (n := 1) (v := 1) (ls' := [.ref 68, .int i1, .int i2, .int i3, .int (i4 + 1)]) (by decide +kernel) rfl (by decide +kernel) rfl h
    have h := sp_goto (mi := 171) (pc := 77) (off := (-52)) (t := 25) (by decide +kernel) (by decide) rfl h
    exact h
set_option maxRecDepth 20000 in
set_option maxHeartbeats 2000000 in
theorem U173_0 {X : pm_X} {k : Nat} {w w' : pm_W} {r : Option Value} {p1 : Int32} {p2 : Int32} {p3 : Int32} (hS : SK w) (h : PS X (k + 1) 173 0 [.ref 0, .int p1, .int p2, .int p3] [] w r w') : ∃ (r1 : Option Value) (w2 : pm_W), PS X k 98 0 [.ref 0, .int p1, .int p2, .int p3, pm_dead, pm_dead, pm_dead] [] w r1 w2 ∧ (∀ x3 : Int32, r1 = some (.int x3) → SK w2 → (if x3 = 0 then (r = some (.int 0) ∧ w' = w2) else (∃ (r4 : Option Value) (w5 : pm_W), PS X k 159 0 [.ref 68, .ref 33, pm_dead, pm_dead] [] w2 r4 w5 ∧ (r4 = none → SK w5 → (r = some (.int 1) ∧ w' = w5))))) := by
  have h := sp_one (i := .aload_n 0) (by decide +kernel) rfl h
  have h := sp_onk (i := .iload_n 1) (by decide +kernel) rfl h
  have h := sp_onk (i := .iload_n 2) (by decide +kernel) rfl h
  have h := sp_onk (i := .iload_n 3) (by decide +kernel) rfl h
  obtain ⟨r1, w2, hc, h⟩ := sp_callV (jj := 201) (mj := 98) (n := 3) (v := .ref 0) (args := [.int p3, .int p2, .int p1]) (ls' := [.ref 0, .int p1, .int p2, .int p3, pm_dead, pm_dead, pm_dead]) (by decide +kernel) (by decide +kernel) rfl rfl rfl h
  refine ⟨r1, w2, hc, fun x3 er hSw2 => ?_⟩
  subst er
  have h : PS X k 173 7 [.ref 0, .int p1, .int p2, .int p3] [.int x3] w2 r w' := h
  rcases sp_if_ne (mi := 173) (pc := 7) (off := 5) (t := 12) (by decide +kernel) (by decide) rfl h with ⟨hc, h⟩ | ⟨hc, h⟩
  · refine ite_f hc ?_
    have h := sp_onk (i := .aload_n 0) (by decide +kernel) rfl h
    have h := sp_getK (jj := 55) (ci := 11) (n := 7) (b := 68) (by decide +kernel) (by decide +kernel) (by decide +kernel) (by decide +kernel) (by decide) hSw2 h
    have h := sp_onk (i := .aload_n 0) (by decide +kernel) rfl h
    have h := sp_getK (jj := 34) (ci := 11) (n := 4) (b := 33) (by decide +kernel) (by decide +kernel) (by decide +kernel) (by decide +kernel) (by decide) hSw2 h
    obtain ⟨r4, w5, hc, h⟩ := sp_callV (jj := 338) (mj := 159) (n := 1) (v := .ref 68) (args := [.ref 33]) (ls' := [.ref 68, .ref 33, pm_dead, pm_dead]) (by decide +kernel) (by decide +kernel) rfl rfl rfl h
    refine ⟨r4, w5, hc, fun er hSw5 => ?_⟩
    subst er
    have h : PS X k 173 23 [.ref 0, .int p1, .int p2, .int p3] [] w5 r w' := h
    have h := sp_iconst (n := 1) (v := 1) (by decide +kernel) (by decide +kernel) h
    exact sp_iret (by decide +kernel) h
  · refine ite_t (Classical.not_not.mp hc) ?_
    have h := sp_iconst (n := 0) (v := 0) (by decide +kernel) (by decide +kernel) h
    exact sp_iret (by decide +kernel) h
set_option maxRecDepth 20000 in
set_option maxHeartbeats 2000000 in
theorem U174_0 {X : pm_X} {k : Nat} {w w' : pm_W} {r : Option Value} {p1 : Int32} (hS : SK w) (h : PS X (k + 1) 174 0 [.ref 68, .int p1, pm_dead, pm_dead] [] w r w') : PS X k 174 4 [.ref 68, .int p1, .int 0, .int 1] [] w r w' := by
  have h := sp_iconst1 (n := 0) (v := 0) (by decide +kernel) (by decide +kernel) h
  have h := sp_istore_n (j := 2) (ls' := [.ref 68, .int p1, .int 0, pm_dead]) (by decide +kernel) (Nat.le_of_ble_eq_true rfl) rfl h
  have h := sp_iconst (n := 1) (v := 1) (by decide +kernel) (by decide +kernel) h
  have h := sp_istore_n (j := 3) (ls' := [.ref 68, .int p1, .int 0, .int 1]) (by decide +kernel) (Nat.le_of_ble_eq_true rfl) rfl h
  exact h
set_option maxRecDepth 20000 in
set_option maxHeartbeats 2000000 in
theorem U174_4 {X : pm_X} {k : Nat} {w w' : pm_W} {r : Option Value} {i1 : Int32} {i2 : Int32} {i3 : Int32} (hS : SK w) (h : PS X (k + 1) 174 4 [.ref 68, .int i1, .int i2, .int i3] [] w r w') : if (gI w 68 7) ≤ i3 then (r = some (.int i2) ∧ w' = w) else (∃ (r1 : Option Value) (w2 : pm_W), PS X k 175 0 [.ref 68, .int i3, .int i2] [] w r1 w2 ∧ (∀ x3 : Int32, r1 = some (.int x3) → SK w2 → (if x3 = 0 then (PS X k 174 4 [.ref 68, .int i1, .int i2, .int (i3 + 1)] [] w2 r w') else (∃ (r4 : Option Value) (w5 : pm_W), PS X k 169 0 [.ref 68, .int i3, .int i1] [] w2 r4 w5 ∧ (∀ x6 : Int32, r4 = some (.int x6) → SK w5 → (if x6 = 0 then (PS X k 174 4 [.ref 68, .int i1, .int i2, .int (i3 + 1)] [] w5 r w') else (PS X k 174 4 [.ref 68, .int i1, .int i3, .int (i3 + 1)] [] w5 r w'))))))) := by
  have h := sp_one (i := .iload_n 3) (by decide +kernel) rfl h
  have h := sp_onk (i := .aload_n 0) (by decide +kernel) rfl h
  have h := sp_getI (jj := 63) (ci := 10) (n := 7) (by decide +kernel) (by decide +kernel) (by decide +kernel) hS h
  rcases sp_icmp_ge (mi := 174) (pc := 9) (off := 29) (t := 38) (by decide +kernel) (by decide) rfl h with ⟨hc, h⟩ | ⟨hc, h⟩
  · refine ite_t hc ?_
    have h := sp_onk (i := .iload_n 2) (by decide +kernel) rfl h
    exact sp_iret (by decide +kernel) h
  · refine ite_f hc ?_
    have h := sp_onk (i := .aload_n 0) (by decide +kernel) rfl h
    have h := sp_onk (i := .iload_n 3) (by decide +kernel) rfl h
    have h := sp_onk (i := .iload_n 2) (by decide +kernel) rfl h
    obtain ⟨r1, w2, hc, h⟩ := sp_callV (jj := 104) (mj := 175) (n := 2) (v := .ref 68) (args := [.int i2, .int i3]) (ls' := [.ref 68, .int i3, .int i2]) (by decide +kernel) (by decide +kernel) rfl rfl rfl h
    refine ⟨r1, w2, hc, fun x3 er hSw2 => ?_⟩
    subst er
    have h : PS X k 174 18 [.ref 68, .int i1, .int i2, .int i3] [.int x3] w2 r w' := h
    rcases sp_if_eq (mi := 174) (pc := 18) (off := 14) (t := 32) (by decide +kernel) (by decide) rfl h with ⟨hc, h⟩ | ⟨hc, h⟩
    · refine ite_t hc ?_
      have h := sp_iinc (j := 3) (n := 1) (v := 1) (ls' := [.ref 68, .int i1, .int i2, .int (i3 + 1)]) (by decide +kernel) rfl (by decide +kernel) rfl h
      have h := sp_goto (mi := 174) (pc := 35) (off := (-31)) (t := 4) (by decide +kernel) (by decide) rfl h
      exact h
    · refine ite_f hc ?_
      have h := sp_onk (i := .aload_n 0) (by decide +kernel) rfl h
      have h := sp_onk (i := .iload_n 3) (by decide +kernel) rfl h
      have h := sp_onk (i := .iload_n 1) (by decide +kernel) rfl h
      obtain ⟨r4, w5, hc, h⟩ := sp_callV (jj := 107) (mj := 169) (n := 2) (v := .ref 68) (args := [.int i1, .int i3]) (ls' := [.ref 68, .int i3, .int i1]) (by decide +kernel) (by decide +kernel) rfl rfl rfl h
      refine ⟨r4, w5, hc, fun x6 er hSw5 => ?_⟩
      subst er
      have h : PS X k 174 27 [.ref 68, .int i1, .int i2, .int i3] [.int x6] w5 r w' := h
      rcases sp_if_eq (mi := 174) (pc := 27) (off := 5) (t := 32) (by decide +kernel) (by decide) rfl h with ⟨hc, h⟩ | ⟨hc, h⟩
      · refine ite_t hc ?_
        have h := sp_iinc (j := 3) (n := 1) (v := 1) (ls' := [.ref 68, .int i1, .int i2, .int (i3 + 1)]) (by decide +kernel) rfl (by decide +kernel) rfl h
        have h := sp_goto (mi := 174) (pc := 35) (off := (-31)) (t := 4) (by decide +kernel) (by decide) rfl h
        exact h
      · refine ite_f hc ?_
        have h := sp_onk (i := .iload_n 3) (by decide +kernel) rfl h
        have h := sp_istore_n (j := 2) (ls' := [.ref 68, .int i1, .int i3, .int i3]) (by decide +kernel) (Nat.le_of_ble_eq_true rfl) rfl h
        have h := sp_iinc (j := 3) (n := 1) (v := 1) (ls' := [.ref 68, .int i1, .int i3, .int (i3 + 1)]) (by decide +kernel) rfl (by decide +kernel) rfl h
        have h := sp_goto (mi := 174) (pc := 35) (off := (-31)) (t := 4) (by decide +kernel) (by decide) rfl h
        exact h
set_option maxRecDepth 20000 in
set_option maxHeartbeats 2000000 in
theorem U175_0 {X : pm_X} {k : Nat} {w w' : pm_W} {r : Option Value} {p1 : Int32} {p2 : Int32} (hS : SK w) (h : PS X (k + 1) 175 0 [.ref 68, .int p1, .int p2] [] w r w') : aI w 77 p1 ∧ (aI w 77 p2 ∧ (if (aG w 77 p1) = (aG w 77 p2) then (∃ (r1 : Option Value) (w2 : pm_W), PS X k 176 0 [.int p1] [] w r1 w2 ∧ (∀ x3 : Int32, r1 = some (.int x3) → SK w2 → (∃ (r4 : Option Value) (w5 : pm_W), PS X k 176 0 [.int p2] [] w2 r4 w5 ∧ (∀ x6 : Int32, r4 = some (.int x6) → SK w5 → (if x6 ≤ x3 then (r = some (.int 0) ∧ w' = w5) else (r = some (.int 1) ∧ w' = w5)))))) else (aI w 77 p1 ∧ (aI w 77 p2 ∧ (if (aG w 77 p1) ≤ (aG w 77 p2) then (r = some (.int 0) ∧ w' = w) else (r = some (.int 1) ∧ w' = w)))))) := by
  have h := sp_one (i := .aload_n 0) (by decide +kernel) rfl h
  have h := sp_getK (jj := 28) (ci := 10) (n := 4) (b := 77) (by decide +kernel) (by decide +kernel) (by decide +kernel) (by decide +kernel) (by decide) hS h
  have h := sp_onk (i := .iload_n 1) (by decide +kernel) rfl h
  obtain ⟨hi, h⟩ := sp_iald (by decide +kernel) h
  refine ⟨hi, ?_⟩
  have h := sp_onk (i := .aload_n 0) (by decide +kernel) rfl h
  have h := sp_getK (jj := 28) (ci := 10) (n := 4) (b := 77) (by decide +kernel) (by decide +kernel) (by decide +kernel) (by decide +kernel) (by decide) hS h
  have h := sp_onk (i := .iload_n 2) (by decide +kernel) rfl h
  obtain ⟨hi, h⟩ := sp_iald (by decide +kernel) h
  refine ⟨hi, ?_⟩
  rcases sp_icmp_eq (mi := 175) (pc := 12) (off := 24) (t := 36) (by decide +kernel) (by decide) rfl h with ⟨hc, h⟩ | ⟨hc, h⟩
  · refine ite_t hc ?_
    have h := sp_onk (i := .iload_n 1) (by decide +kernel) rfl h
    obtain ⟨r1, w2, hc, h⟩ := sp_callS (jj := 110) (mj := 176) (n := 1) (args := [.int p1]) (ls' := [.int p1]) (by decide +kernel) (by decide +kernel) (by decide +kernel) rfl rfl rfl h
    refine ⟨r1, w2, hc, fun x3 er hSw2 => ?_⟩
    subst er
    have h : PS X k 175 40 [.ref 68, .int p1, .int p2] [.int x3] w2 r w' := h
    have h := sp_onk (i := .iload_n 2) (by decide +kernel) rfl h
    obtain ⟨r4, w5, hc, h⟩ := sp_callS (jj := 110) (mj := 176) (n := 1) (args := [.int p2]) (ls' := [.int p2]) (by decide +kernel) (by decide +kernel) (by decide +kernel) rfl rfl rfl h
    refine ⟨r4, w5, hc, fun x6 er hSw5 => ?_⟩
    subst er
    have h : PS X k 175 44 [.ref 68, .int p1, .int p2] [.int x6, .int x3] w5 r w' := h
    rcases sp_icmp_ge (mi := 175) (pc := 44) (off := 7) (t := 51) (by decide +kernel) (by decide) rfl h with ⟨hc, h⟩ | ⟨hc, h⟩
    · refine ite_t hc ?_
      have h := sp_iconst (n := 0) (v := 0) (by decide +kernel) (by decide +kernel) h
      exact sp_iret (by decide +kernel) h
    · refine ite_f hc ?_
      have h := sp_iconst (n := 1) (v := 1) (by decide +kernel) (by decide +kernel) h
      have h := sp_goto (mi := 175) (pc := 48) (off := 4) (t := 52) (by decide +kernel) (by decide) rfl h
      exact sp_iret (by decide +kernel) h
  · refine ite_f hc ?_
    have h := sp_onk (i := .aload_n 0) (by decide +kernel) rfl h
    have h := sp_getK (jj := 28) (ci := 10) (n := 4) (b := 77) (by decide +kernel) (by decide +kernel) (by decide +kernel) (by decide +kernel) (by decide) hS h
    have h := sp_onk (i := .iload_n 1) (by decide +kernel) rfl h
    obtain ⟨hi, h⟩ := sp_iald (by decide +kernel) h
    refine ⟨hi, ?_⟩
    have h := sp_onk (i := .aload_n 0) (by decide +kernel) rfl h
    have h := sp_getK (jj := 28) (ci := 10) (n := 4) (b := 77) (by decide +kernel) (by decide +kernel) (by decide +kernel) (by decide +kernel) (by decide) hS h
    have h := sp_onk (i := .iload_n 2) (by decide +kernel) rfl h
    obtain ⟨hi, h⟩ := sp_iald (by decide +kernel) h
    refine ⟨hi, ?_⟩
    rcases sp_icmp_le (mi := 175) (pc := 27) (off := 7) (t := 34) (by decide +kernel) (by decide) rfl h with ⟨hc, h⟩ | ⟨hc, h⟩
    · refine ite_t hc ?_
      have h := sp_iconst (n := 0) (v := 0) (by decide +kernel) (by decide +kernel) h
      exact sp_iret (by decide +kernel) h
    · refine ite_f hc ?_
      have h := sp_iconst (n := 1) (v := 1) (by decide +kernel) (by decide +kernel) h
      have h := sp_goto (mi := 175) (pc := 31) (off := 4) (t := 35) (by decide +kernel) (by decide) rfl h
      exact sp_iret (by decide +kernel) h
set_option maxRecDepth 20000 in
set_option maxHeartbeats 2000000 in
theorem U176_0 {X : pm_X} {k : Nat} {w w' : pm_W} {r : Option Value} {p1 : Int32} (hS : SK w) (h : PS X (k + 1) 176 0 [.int p1] [] w r w') : r = some (.int ((((((((p1 - (((p1.toUInt32 >>> ((1 : Int32).toUInt32 &&& Int32.toUInt32 31)).toInt32) &&& 1431655765)) &&& 858993459) + ((((p1 - (((p1.toUInt32 >>> ((1 : Int32).toUInt32 &&& Int32.toUInt32 31)).toInt32) &&& 1431655765)).toUInt32 >>> ((2 : Int32).toUInt32 &&& Int32.toUInt32 31)).toInt32) &&& 858993459)) + (((((p1 - (((p1.toUInt32 >>> ((1 : Int32).toUInt32 &&& Int32.toUInt32 31)).toInt32) &&& 1431655765)) &&& 858993459) + ((((p1 - (((p1.toUInt32 >>> ((1 : Int32).toUInt32 &&& Int32.toUInt32 31)).toInt32) &&& 1431655765)).toUInt32 >>> ((2 : Int32).toUInt32 &&& Int32.toUInt32 31)).toInt32) &&& 858993459)).toUInt32 >>> ((4 : Int32).toUInt32 &&& Int32.toUInt32 31)).toInt32)) &&& 252645135) + (((((((p1 - (((p1.toUInt32 >>> ((1 : Int32).toUInt32 &&& Int32.toUInt32 31)).toInt32) &&& 1431655765)) &&& 858993459) + ((((p1 - (((p1.toUInt32 >>> ((1 : Int32).toUInt32 &&& Int32.toUInt32 31)).toInt32) &&& 1431655765)).toUInt32 >>> ((2 : Int32).toUInt32 &&& Int32.toUInt32 31)).toInt32) &&& 858993459)) + (((((p1 - (((p1.toUInt32 >>> ((1 : Int32).toUInt32 &&& Int32.toUInt32 31)).toInt32) &&& 1431655765)) &&& 858993459) + ((((p1 - (((p1.toUInt32 >>> ((1 : Int32).toUInt32 &&& Int32.toUInt32 31)).toInt32) &&& 1431655765)).toUInt32 >>> ((2 : Int32).toUInt32 &&& Int32.toUInt32 31)).toInt32) &&& 858993459)).toUInt32 >>> ((4 : Int32).toUInt32 &&& Int32.toUInt32 31)).toInt32)) &&& 252645135).toUInt32 >>> ((8 : Int32).toUInt32 &&& Int32.toUInt32 31)).toInt32)) + ((((((((p1 - (((p1.toUInt32 >>> ((1 : Int32).toUInt32 &&& Int32.toUInt32 31)).toInt32) &&& 1431655765)) &&& 858993459) + ((((p1 - (((p1.toUInt32 >>> ((1 : Int32).toUInt32 &&& Int32.toUInt32 31)).toInt32) &&& 1431655765)).toUInt32 >>> ((2 : Int32).toUInt32 &&& Int32.toUInt32 31)).toInt32) &&& 858993459)) + (((((p1 - (((p1.toUInt32 >>> ((1 : Int32).toUInt32 &&& Int32.toUInt32 31)).toInt32) &&& 1431655765)) &&& 858993459) + ((((p1 - (((p1.toUInt32 >>> ((1 : Int32).toUInt32 &&& Int32.toUInt32 31)).toInt32) &&& 1431655765)).toUInt32 >>> ((2 : Int32).toUInt32 &&& Int32.toUInt32 31)).toInt32) &&& 858993459)).toUInt32 >>> ((4 : Int32).toUInt32 &&& Int32.toUInt32 31)).toInt32)) &&& 252645135) + (((((((p1 - (((p1.toUInt32 >>> ((1 : Int32).toUInt32 &&& Int32.toUInt32 31)).toInt32) &&& 1431655765)) &&& 858993459) + ((((p1 - (((p1.toUInt32 >>> ((1 : Int32).toUInt32 &&& Int32.toUInt32 31)).toInt32) &&& 1431655765)).toUInt32 >>> ((2 : Int32).toUInt32 &&& Int32.toUInt32 31)).toInt32) &&& 858993459)) + (((((p1 - (((p1.toUInt32 >>> ((1 : Int32).toUInt32 &&& Int32.toUInt32 31)).toInt32) &&& 1431655765)) &&& 858993459) + ((((p1 - (((p1.toUInt32 >>> ((1 : Int32).toUInt32 &&& Int32.toUInt32 31)).toInt32) &&& 1431655765)).toUInt32 >>> ((2 : Int32).toUInt32 &&& Int32.toUInt32 31)).toInt32) &&& 858993459)).toUInt32 >>> ((4 : Int32).toUInt32 &&& Int32.toUInt32 31)).toInt32)) &&& 252645135).toUInt32 >>> ((8 : Int32).toUInt32 &&& Int32.toUInt32 31)).toInt32)).toUInt32 >>> ((16 : Int32).toUInt32 &&& Int32.toUInt32 31)).toInt32)) &&& 63)) ∧ w' = w := by
  have h := sp_one (i := .iload_n 0) (by decide +kernel) rfl h
  have h := sp_onk (i := .iload_n 0) (by decide +kernel) rfl h
  have h := sp_iconst (n := 1) (v := 1) (by decide +kernel) (by decide +kernel) h
  have h := sp_onk (i := .iushr) (by decide +kernel) rfl h
  have h := sp_ldc_w (j := 265) (v := 1431655765) (by decide +kernel) (by decide +kernel) h
  have h := sp_onk (i := .iand) (by decide +kernel) rfl h
  have h := sp_onk (i := .isub) (by decide +kernel) rfl h
  have h := sp_istore_n (j := 0) (ls' := [.int (p1 - (((p1.toUInt32 >>> ((1 : Int32).toUInt32 &&& Int32.toUInt32 31)).toInt32) &&& 1431655765))]) (by decide +kernel) (Nat.le_of_ble_eq_true rfl) rfl h
  have h := sp_onk (i := .iload_n 0) (by decide +kernel) rfl h
  have h := sp_ldc_w (j := 266) (v := 858993459) (by decide +kernel) (by decide +kernel) h
  have h := sp_onk (i := .iand) (by decide +kernel) rfl h
  have h := sp_onk (i := .iload_n 0) (by decide +kernel) rfl h
  have h := sp_iconst (n := 2) (v := 2) (by decide +kernel) (by decide +kernel) h
  have h := sp_onk (i := .iushr) (by decide +kernel) rfl h
  have h := sp_ldc_w (j := 266) (v := 858993459) (by decide +kernel) (by decide +kernel) h
  have h := sp_onk (i := .iand) (by decide +kernel) rfl h
  have h := sp_onk (i := .iadd) (by decide +kernel) rfl h
  have h := sp_istore_n (j := 0) (ls' := [.int (((p1 - (((p1.toUInt32 >>> ((1 : Int32).toUInt32 &&& Int32.toUInt32 31)).toInt32) &&& 1431655765)) &&& 858993459) + ((((p1 - (((p1.toUInt32 >>> ((1 : Int32).toUInt32 &&& Int32.toUInt32 31)).toInt32) &&& 1431655765)).toUInt32 >>> ((2 : Int32).toUInt32 &&& Int32.toUInt32 31)).toInt32) &&& 858993459))]) (by decide +kernel) (Nat.le_of_ble_eq_true rfl) rfl h
  have h := sp_onk (i := .iload_n 0) (by decide +kernel) rfl h
  have h := sp_onk (i := .iload_n 0) (by decide +kernel) rfl h
  have h := sp_iconst (n := 4) (v := 4) (by decide +kernel) (by decide +kernel) h
  have h := sp_onk (i := .iushr) (by decide +kernel) rfl h
  have h := sp_onk (i := .iadd) (by decide +kernel) rfl h
  have h := sp_ldc_w (j := 267) (v := 252645135) (by decide +kernel) (by decide +kernel) h
  have h := sp_onk (i := .iand) (by decide +kernel) rfl h
  have h := sp_istore_n (j := 0) (ls' := [.int (((((p1 - (((p1.toUInt32 >>> ((1 : Int32).toUInt32 &&& Int32.toUInt32 31)).toInt32) &&& 1431655765)) &&& 858993459) + ((((p1 - (((p1.toUInt32 >>> ((1 : Int32).toUInt32 &&& Int32.toUInt32 31)).toInt32) &&& 1431655765)).toUInt32 >>> ((2 : Int32).toUInt32 &&& Int32.toUInt32 31)).toInt32) &&& 858993459)) + (((((p1 - (((p1.toUInt32 >>> ((1 : Int32).toUInt32 &&& Int32.toUInt32 31)).toInt32) &&& 1431655765)) &&& 858993459) + ((((p1 - (((p1.toUInt32 >>> ((1 : Int32).toUInt32 &&& Int32.toUInt32 31)).toInt32) &&& 1431655765)).toUInt32 >>> ((2 : Int32).toUInt32 &&& Int32.toUInt32 31)).toInt32) &&& 858993459)).toUInt32 >>> ((4 : Int32).toUInt32 &&& Int32.toUInt32 31)).toInt32)) &&& 252645135)]) (by decide +kernel) (Nat.le_of_ble_eq_true rfl) rfl h
  have h := sp_onk (i := .iload_n 0) (by decide +kernel) rfl h
  have h := sp_onk (i := .iload_n 0) (by decide +kernel) rfl h
  have h := sp_bipush (n := 8) (v := 8) (by decide +kernel) (by decide +kernel) h
  have h := sp_onk (i := .iushr) (by decide +kernel) rfl h
  have h := sp_onk (i := .iadd) (by decide +kernel) rfl h
  have h := sp_istore_n (j := 0) (ls' := [.int ((((((p1 - (((p1.toUInt32 >>> ((1 : Int32).toUInt32 &&& Int32.toUInt32 31)).toInt32) &&& 1431655765)) &&& 858993459) + ((((p1 - (((p1.toUInt32 >>> ((1 : Int32).toUInt32 &&& Int32.toUInt32 31)).toInt32) &&& 1431655765)).toUInt32 >>> ((2 : Int32).toUInt32 &&& Int32.toUInt32 31)).toInt32) &&& 858993459)) + (((((p1 - (((p1.toUInt32 >>> ((1 : Int32).toUInt32 &&& Int32.toUInt32 31)).toInt32) &&& 1431655765)) &&& 858993459) + ((((p1 - (((p1.toUInt32 >>> ((1 : Int32).toUInt32 &&& Int32.toUInt32 31)).toInt32) &&& 1431655765)).toUInt32 >>> ((2 : Int32).toUInt32 &&& Int32.toUInt32 31)).toInt32) &&& 858993459)).toUInt32 >>> ((4 : Int32).toUInt32 &&& Int32.toUInt32 31)).toInt32)) &&& 252645135) + (((((((p1 - (((p1.toUInt32 >>> ((1 : Int32).toUInt32 &&& Int32.toUInt32 31)).toInt32) &&& 1431655765)) &&& 858993459) + ((((p1 - (((p1.toUInt32 >>> ((1 : Int32).toUInt32 &&& Int32.toUInt32 31)).toInt32) &&& 1431655765)).toUInt32 >>> ((2 : Int32).toUInt32 &&& Int32.toUInt32 31)).toInt32) &&& 858993459)) + (((((p1 - (((p1.toUInt32 >>> ((1 : Int32).toUInt32 &&& Int32.toUInt32 31)).toInt32) &&& 1431655765)) &&& 858993459) + ((((p1 - (((p1.toUInt32 >>> ((1 : Int32).toUInt32 &&& Int32.toUInt32 31)).toInt32) &&& 1431655765)).toUInt32 >>> ((2 : Int32).toUInt32 &&& Int32.toUInt32 31)).toInt32) &&& 858993459)).toUInt32 >>> ((4 : Int32).toUInt32 &&& Int32.toUInt32 31)).toInt32)) &&& 252645135).toUInt32 >>> ((8 : Int32).toUInt32 &&& Int32.toUInt32 31)).toInt32))]) (by decide +kernel) (Nat.le_of_ble_eq_true rfl) rfl h
  have h := sp_onk (i := .iload_n 0) (by decide +kernel) rfl h
  have h := sp_onk (i := .iload_n 0) (by decide +kernel) rfl h
  have h := sp_bipush (n := 16) (v := 16) (by decide +kernel) (by decide +kernel) h
  have h := sp_onk (i := .iushr) (by decide +kernel) rfl h
  have h := sp_onk (i := .iadd) (by decide +kernel) rfl h
  have h := sp_istore_n (j := 0) (ls' := [.int (((((((p1 - (((p1.toUInt32 >>> ((1 : Int32).toUInt32 &&& Int32.toUInt32 31)).toInt32) &&& 1431655765)) &&& 858993459) + ((((p1 - (((p1.toUInt32 >>> ((1 : Int32).toUInt32 &&& Int32.toUInt32 31)).toInt32) &&& 1431655765)).toUInt32 >>> ((2 : Int32).toUInt32 &&& Int32.toUInt32 31)).toInt32) &&& 858993459)) + (((((p1 - (((p1.toUInt32 >>> ((1 : Int32).toUInt32 &&& Int32.toUInt32 31)).toInt32) &&& 1431655765)) &&& 858993459) + ((((p1 - (((p1.toUInt32 >>> ((1 : Int32).toUInt32 &&& Int32.toUInt32 31)).toInt32) &&& 1431655765)).toUInt32 >>> ((2 : Int32).toUInt32 &&& Int32.toUInt32 31)).toInt32) &&& 858993459)).toUInt32 >>> ((4 : Int32).toUInt32 &&& Int32.toUInt32 31)).toInt32)) &&& 252645135) + (((((((p1 - (((p1.toUInt32 >>> ((1 : Int32).toUInt32 &&& Int32.toUInt32 31)).toInt32) &&& 1431655765)) &&& 858993459) + ((((p1 - (((p1.toUInt32 >>> ((1 : Int32).toUInt32 &&& Int32.toUInt32 31)).toInt32) &&& 1431655765)).toUInt32 >>> ((2 : Int32).toUInt32 &&& Int32.toUInt32 31)).toInt32) &&& 858993459)) + (((((p1 - (((p1.toUInt32 >>> ((1 : Int32).toUInt32 &&& Int32.toUInt32 31)).toInt32) &&& 1431655765)) &&& 858993459) + ((((p1 - (((p1.toUInt32 >>> ((1 : Int32).toUInt32 &&& Int32.toUInt32 31)).toInt32) &&& 1431655765)).toUInt32 >>> ((2 : Int32).toUInt32 &&& Int32.toUInt32 31)).toInt32) &&& 858993459)).toUInt32 >>> ((4 : Int32).toUInt32 &&& Int32.toUInt32 31)).toInt32)) &&& 252645135).toUInt32 >>> ((8 : Int32).toUInt32 &&& Int32.toUInt32 31)).toInt32)) + ((((((((p1 - (((p1.toUInt32 >>> ((1 : Int32).toUInt32 &&& Int32.toUInt32 31)).toInt32) &&& 1431655765)) &&& 858993459) + ((((p1 - (((p1.toUInt32 >>> ((1 : Int32).toUInt32 &&& Int32.toUInt32 31)).toInt32) &&& 1431655765)).toUInt32 >>> ((2 : Int32).toUInt32 &&& Int32.toUInt32 31)).toInt32) &&& 858993459)) + (((((p1 - (((p1.toUInt32 >>> ((1 : Int32).toUInt32 &&& Int32.toUInt32 31)).toInt32) &&& 1431655765)) &&& 858993459) + ((((p1 - (((p1.toUInt32 >>> ((1 : Int32).toUInt32 &&& Int32.toUInt32 31)).toInt32) &&& 1431655765)).toUInt32 >>> ((2 : Int32).toUInt32 &&& Int32.toUInt32 31)).toInt32) &&& 858993459)).toUInt32 >>> ((4 : Int32).toUInt32 &&& Int32.toUInt32 31)).toInt32)) &&& 252645135) + (((((((p1 - (((p1.toUInt32 >>> ((1 : Int32).toUInt32 &&& Int32.toUInt32 31)).toInt32) &&& 1431655765)) &&& 858993459) + ((((p1 - (((p1.toUInt32 >>> ((1 : Int32).toUInt32 &&& Int32.toUInt32 31)).toInt32) &&& 1431655765)).toUInt32 >>> ((2 : Int32).toUInt32 &&& Int32.toUInt32 31)).toInt32) &&& 858993459)) + (((((p1 - (((p1.toUInt32 >>> ((1 : Int32).toUInt32 &&& Int32.toUInt32 31)).toInt32) &&& 1431655765)) &&& 858993459) + ((((p1 - (((p1.toUInt32 >>> ((1 : Int32).toUInt32 &&& Int32.toUInt32 31)).toInt32) &&& 1431655765)).toUInt32 >>> ((2 : Int32).toUInt32 &&& Int32.toUInt32 31)).toInt32) &&& 858993459)).toUInt32 >>> ((4 : Int32).toUInt32 &&& Int32.toUInt32 31)).toInt32)) &&& 252645135).toUInt32 >>> ((8 : Int32).toUInt32 &&& Int32.toUInt32 31)).toInt32)).toUInt32 >>> ((16 : Int32).toUInt32 &&& Int32.toUInt32 31)).toInt32))]) (by decide +kernel) (Nat.le_of_ble_eq_true rfl) rfl h
  have h := sp_onk (i := .iload_n 0) (by decide +kernel) rfl h
  have h := sp_bipush (n := 63) (v := 63) (by decide +kernel) (by decide +kernel) h
  have h := sp_onk (i := .iand) (by decide +kernel) rfl h
  exact sp_iret (by decide +kernel) h
set_option maxRecDepth 20000 in
set_option maxHeartbeats 2000000 in
theorem U277_0 {X : pm_X} {k : Nat} {w w' : pm_W} {r : Option Value} (hS : SK w) (h : PS X (k + 1) 277 0 [.ref 147, pm_dead] [] w r w') : PS X k 277 2 [.ref 147, .int 0] [] w r w' := by
  have h := sp_iconst1 (n := 0) (v := 0) (by decide +kernel) (by decide +kernel) h
  have h := sp_istore_n (j := 1) (ls' := [.ref 147, .int 0]) (by decide +kernel) (Nat.le_of_ble_eq_true rfl) rfl h
  exact h
set_option maxRecDepth 20000 in
set_option maxHeartbeats 2000000 in
theorem U277_2 {X : pm_X} {k : Nat} {w w' : pm_W} {r : Option Value} {i1 : Int32} (hS : SK w) (h : PS X (k + 1) 277 2 [.ref 147, .int i1] [] w r w') : if 100 ≤ i1 then (PS X k 277 37 [.ref 147, .int 0] [] w r w') else (aI w 160 i1 ∧ (∀ w1 : pm_W, w1 = aS w 160 i1 0 → (aI w1 161 i1 ∧ (∀ w2 : pm_W, w2 = aS w1 161 i1 0 → (aI w2 162 i1 ∧ (∀ w3 : pm_W, w3 = aS w2 162 i1 0 → (PS X k 277 2 [.ref 147, .int (i1 + 1)] [] w3 r w'))))))) := by
  have h := sp_one (i := .iload_n 1) (by decide +kernel) rfl h
  have h := sp_bipush (n := 100) (v := 100) (by decide +kernel) (by decide +kernel) h
  rcases sp_icmp_ge (mi := 277) (pc := 5) (off := 30) (t := 35) (by decide +kernel) (by decide) rfl h with ⟨hc, h⟩ | ⟨hc, h⟩
  · refine ite_t hc ?_
    have h := sp_iconst (n := 0) (v := 0) (by decide +kernel) (by decide +kernel) h
    have h := sp_istore_n (j := 1) (ls' := [.ref 147, .int 0]) (by decide +kernel) (Nat.le_of_ble_eq_true rfl) rfl h
    exact h
  · refine ite_f hc ?_
    have h := sp_onk (i := .aload_n 0) (by decide +kernel) rfl h
    have h := sp_getK (jj := 47) (ci := 12) (n := 25) (b := 160) (by decide +kernel) (by decide +kernel) (by decide +kernel) (by decide +kernel) (by decide) hS h
    have h := sp_onk (i := .iload_n 1) (by decide +kernel) rfl h
    have h := sp_iconst (n := 0) (v := 0) (by decide +kernel) (by decide +kernel) h
    obtain ⟨hi, h⟩ := sp_iast (by decide +kernel) h
    refine ⟨hi, ?_⟩
    intro w1 ew1
    rw [← ew1] at h
    have hSw1 : SK w1 := by rw [ew1]; exact SK_aS hS
    have h := sp_onk (i := .aload_n 0) (by decide +kernel) rfl h
    have h := sp_getK (jj := 50) (ci := 12) (n := 26) (b := 161) (by decide +kernel) (by decide +kernel) (by decide +kernel) (by decide +kernel) (by decide) hSw1 h
    have h := sp_onk (i := .iload_n 1) (by decide +kernel) rfl h
    have h := sp_iconst (n := 0) (v := 0) (by decide +kernel) (by decide +kernel) h
    obtain ⟨hi, h⟩ := sp_iast (by decide +kernel) h
    refine ⟨hi, ?_⟩
    intro w2 ew2
    rw [← ew2] at h
    have hSw2 : SK w2 := by rw [ew2]; exact SK_aS hSw1
    have h := sp_onk (i := .aload_n 0) (by decide +kernel) rfl h
    have h := sp_getK (jj := 53) (ci := 12) (n := 27) (b := 162) (by decide +kernel) (by decide +kernel) (by decide +kernel) (by decide +kernel) (by decide) hSw2 h
    have h := sp_onk (i := .iload_n 1) (by decide +kernel) rfl h
    have h := sp_iconst (n := 0) (v := 0) (by decide +kernel) (by decide +kernel) h
    obtain ⟨hi, h⟩ := sp_iast (by decide +kernel) h
    refine ⟨hi, ?_⟩
    intro w3 ew3
    rw [← ew3] at h
    have hSw3 : SK w3 := by rw [ew3]; exact SK_aS hSw2
    have h := sp_iinc (j := 1) (n := 1) (v := 1) (ls' := [.ref 147, .int (i1 + 1)]) (by decide +kernel) rfl (by decide +kernel) rfl h
    have h := sp_goto (mi := 277) (pc := 32) (off := (-30)) (t := 2) (by decide +kernel) (by decide) rfl h
    exact h
set_option maxRecDepth 20000 in
set_option maxHeartbeats 2000000 in
theorem U277_37 {X : pm_X} {k : Nat} {w w' : pm_W} {r : Option Value} {i1 : Int32} (hS : SK w) (h : PS X (k + 1) 277 37 [.ref 147, .int i1] [] w r w') : if 10 ≤ i1 then (r = none ∧ w' = w) else (aI w 163 i1 ∧ (∀ w1 : pm_W, w1 = aS w 163 i1 0 → (PS X k 277 37 [.ref 147, .int (i1 + 1)] [] w1 r w'))) := by
  have h := sp_one (i := .iload_n 1) (by decide +kernel) rfl h
  have h := sp_bipush (n := 10) (v := 10) (by decide +kernel) (by decide +kernel) h
  rcases sp_icmp_ge (mi := 277) (pc := 40) (off := 16) (t := 56) (by decide +kernel) (by decide) rfl h with ⟨hc, h⟩ | ⟨hc, h⟩
  · refine ite_t hc ?_
    exact sp_vret (by decide +kernel) h
  · refine ite_f hc ?_
    have h := sp_onk (i := .aload_n 0) (by decide +kernel) rfl h
    have h := sp_getK (jj := 56) (ci := 12) (n := 28) (b := 163) (by decide +kernel) (by decide +kernel) (by decide +kernel) (by decide +kernel) (by decide) hS h
    have h := sp_onk (i := .iload_n 1) (by decide +kernel) rfl h
    have h := sp_iconst (n := 0) (v := 0) (by decide +kernel) (by decide +kernel) h
    obtain ⟨hi, h⟩ := sp_iast (by decide +kernel) h
    refine ⟨hi, ?_⟩
    intro w1 ew1
    rw [← ew1] at h
    have hSw1 : SK w1 := by rw [ew1]; exact SK_aS hS
    have h := sp_iinc (j := 1) (n := 1) (v := 1) (ls' := [.ref 147, .int (i1 + 1)]) (by decide +kernel) rfl (by decide +kernel) rfl h
    have h := sp_goto (mi := 277) (pc := 53) (off := (-16)) (t := 37) (by decide +kernel) (by decide) rfl h
    exact h
set_option maxRecDepth 20000 in
set_option maxHeartbeats 2000000 in
theorem U278_0 {X : pm_X} {k : Nat} {w w' : pm_W} {r : Option Value} (hS : SK w) (h : PS X (k + 1) 278 0 [.ref 147, pm_dead, pm_dead, pm_dead, pm_dead] [] w r w') : ∃ (r1 : Option Value) (w2 : pm_W), PS X k 279 0 [.ref 147, pm_dead, pm_dead, pm_dead] [] w r1 w2 ∧ (∀ x3 : Int32, r1 = some (.int x3) → SK w2 → (PS X k 278 5 [.ref 147, .int x3, pm_dead, pm_dead, pm_dead] [] w2 r w')) := by
  have h := sp_one (i := .aload_n 0) (by decide +kernel) rfl h
  obtain ⟨r1, w2, hc, h⟩ := sp_callV (jj := 317) (mj := 279) (n := 0) (v := .ref 147) (args := []) (ls' := [.ref 147, pm_dead, pm_dead, pm_dead]) (by decide +kernel) (by decide +kernel) rfl rfl rfl h
  refine ⟨r1, w2, hc, fun x3 er hSw2 => ?_⟩
  subst er
  have h : PS X k 278 4 [.ref 147, pm_dead, pm_dead, pm_dead, pm_dead] [.int x3] w2 r w' := h
  have h := sp_istore_n (j := 1) (ls' := [.ref 147, .int x3, pm_dead, pm_dead, pm_dead]) (by decide +kernel) (Nat.le_of_ble_eq_true rfl) rfl h
  exact h
set_option maxRecDepth 20000 in
set_option maxHeartbeats 2000000 in
theorem U278_5 {X : pm_X} {k : Nat} {w w' : pm_W} {r : Option Value} {i1 : Int32} {u2 : Value} {u3 : Value} {u4 : Value} (hS : SK w) (h : PS X (k + 1) 278 5 [.ref 147, .int i1, u2, u3, u4] [] w r w') : if i1 < 0 then (PS X k 278 164 [.ref 147, .int i1, .int 1, .int 0, u4] [] w r w') else (aI w 163 i1 ∧ (PS X k 278 19 [.ref 147, .int i1, .int (-(aG w 163 i1)), .int i1, u4] [] w r w')) := by
  have h := sp_one (i := .iload_n 1) (by decide +kernel) rfl h
  rcases sp_if_lt (mi := 278) (pc := 6) (off := 154) (t := 160) (by decide +kernel) (by decide) rfl h with ⟨hc, h⟩ | ⟨hc, h⟩
  · refine ite_t hc ?_
    have h := sp_iconst (n := 1) (v := 1) (by decide +kernel) (by decide +kernel) h
    have h := sp_istore_n (j := 2) (ls' := [.ref 147, .int i1, .int 1, u3, u4]) (by decide +kernel) (Nat.le_of_ble_eq_true rfl) rfl h
    have h := sp_iconst (n := 0) (v := 0) (by decide +kernel) (by decide +kernel) h
    have h := sp_istore_n (j := 3) (ls' := [.ref 147, .int i1, .int 1, .int 0, u4]) (by decide +kernel) (Nat.le_of_ble_eq_true rfl) rfl h
    exact h
  · refine ite_f hc ?_
    have h := sp_onk (i := .aload_n 0) (by decide +kernel) rfl h
    have h := sp_getK (jj := 56) (ci := 12) (n := 28) (b := 163) (by decide +kernel) (by decide +kernel) (by decide +kernel) (by decide +kernel) (by decide) hS h
    have h := sp_onk (i := .iload_n 1) (by decide +kernel) rfl h
    obtain ⟨hi, h⟩ := sp_iald (by decide +kernel) h
    refine ⟨hi, ?_⟩
    have h := sp_onk (i := .ineg) (by decide +kernel) rfl h
    have h := sp_istore_n (j := 2) (ls' := [.ref 147, .int i1, .int (-(aG w 163 i1)), u3, u4]) (by decide +kernel) (Nat.le_of_ble_eq_true rfl) rfl h
    have h := sp_onk (i := .iload_n 1) (by decide +kernel) rfl h
    have h := sp_istore_n (j := 3) (ls' := [.ref 147, .int i1, .int (-(aG w 163 i1)), .int i1, u4]) (by decide +kernel) (Nat.le_of_ble_eq_true rfl) rfl h
    exact h
set_option maxRecDepth 20000 in
set_option maxHeartbeats 2000000 in
theorem U278_19 {X : pm_X} {k : Nat} {w w' : pm_W} {r : Option Value} {i1 : Int32} {i2 : Int32} {i3 : Int32} {u4 : Value} (hS : SK w) (h : PS X (k + 1) 278 19 [.ref 147, .int i1, .int i2, .int i3, u4] [] w r w') : aI w 164 i3 ∧ (if (aG w 164 i3) = i3 then (aI w 163 i3 ∧ (if i2 ≤ (aG w 163 i3) then (aI w 163 i3 ∧ (aI w 163 i3 ∧ (∀ w1 : pm_W, w1 = aS w 163 i3 ((aG w 163 i3) - i2) → (aI w1 163 i1 ∧ (aI w1 163 i1 ∧ (∀ w2 : pm_W, w2 = aS w1 163 i1 ((aG w1 163 i1) + i2) → (PS X k 278 114 [.ref 147, .int i1, .int i2, .int i3, .int i1] [] w2 r w'))))))) else (aI w 163 i3 ∧ (aI w 163 i3 ∧ (aI w 163 i3 ∧ (∀ w3 : pm_W, w3 = aS w 163 i3 ((aG w 163 i3) - (aG w 163 i3)) → (aI w3 163 i1 ∧ (aI w3 163 i1 ∧ (∀ w4 : pm_W, w4 = aS w3 163 i1 ((aG w3 163 i1) + (aG w 163 i3)) → (PS X k 278 114 [.ref 147, .int i1, .int (aG w 163 i3), .int i3, .int i1] [] w4 r w')))))))))) else (aI w 164 i3 ∧ (∃ (r5 : Option Value) (w6 : pm_W), PS X k 280 0 [.ref 147, .int (aG w 164 i3), .int i3] [] w r5 w6 ∧ (∀ x7 : Int32, r5 = some (.int x7) → SK w6 → (if i2 ≤ x7 then (aI w6 164 i3 ∧ (PS X k 278 19 [.ref 147, .int i1, .int i2, .int (aG w6 164 i3), u4] [] w6 r w')) else (aI w6 164 i3 ∧ (∃ (r8 : Option Value) (w9 : pm_W), PS X k 280 0 [.ref 147, .int (aG w6 164 i3), .int i3] [] w6 r8 w9 ∧ (∀ x10 : Int32, r8 = some (.int x10) → SK w9 → (aI w9 164 i3 ∧ (PS X k 278 19 [.ref 147, .int i1, .int x10, .int (aG w9 164 i3), u4] [] w9 r w')))))))))) := by
  have h := sp_one (i := .aload_n 0) (by decide +kernel) rfl h
  have h := sp_getK (jj := 59) (ci := 12) (n := 29) (b := 164) (by decide +kernel) (by decide +kernel) (by decide +kernel) (by decide +kernel) (by decide) hS h
  have h := sp_onk (i := .iload_n 3) (by decide +kernel) rfl h
  obtain ⟨hi, h⟩ := sp_iald (by decide +kernel) h
  refine ⟨hi, ?_⟩
  have h := sp_onk (i := .iload_n 3) (by decide +kernel) rfl h
  rcases sp_icmp_eq (mi := 278) (pc := 26) (off := 44) (t := 70) (by decide +kernel) (by decide) rfl h with ⟨hc, h⟩ | ⟨hc, h⟩
  · refine ite_t hc ?_
    have h := sp_onk (i := .aload_n 0) (by decide +kernel) rfl h
    have h := sp_getK (jj := 56) (ci := 12) (n := 28) (b := 163) (by decide +kernel) (by decide +kernel) (by decide +kernel) (by decide +kernel) (by decide) hS h
    have h := sp_onk (i := .iload_n 3) (by decide +kernel) rfl h
    obtain ⟨hi, h⟩ := sp_iald (by decide +kernel) h
    refine ⟨hi, ?_⟩
    have h := sp_onk (i := .iload_n 2) (by decide +kernel) rfl h
    rcases sp_icmp_ge (mi := 278) (pc := 77) (off := 12) (t := 89) (by decide +kernel) (by decide) rfl h with ⟨hc, h⟩ | ⟨hc, h⟩
    · refine ite_t hc ?_
      have h := sp_onk (i := .iload_n 2) (by decide +kernel) rfl h
      have h := sp_istore_n (j := 2) (ls' := [.ref 147, .int i1, .int i2, .int i3, u4]) (by decide +kernel) (Nat.le_of_ble_eq_true rfl) rfl h
      have h := sp_onk (i := .aload_n 0) (by decide +kernel) rfl h
      have h := sp_getK (jj := 56) (ci := 12) (n := 28) (b := 163) (by decide +kernel) (by decide +kernel) (by decide +kernel) (by decide +kernel) (by decide) hS h
      have h := sp_onk (i := .iload_n 3) (by decide +kernel) rfl h
      have h := sp_onk (i := .dup2) (by decide +kernel) rfl h
      obtain ⟨hi, h⟩ := sp_iald (by decide +kernel) h
      refine ⟨hi, ?_⟩
      have h := sp_onk (i := .iload_n 2) (by decide +kernel) rfl h
      have h := sp_onk (i := .isub) (by decide +kernel) rfl h
      obtain ⟨hi, h⟩ := sp_iast (by decide +kernel) h
      refine ⟨hi, ?_⟩
      intro w1 ew1
      rw [← ew1] at h
      have hSw1 : SK w1 := by rw [ew1]; exact SK_aS hS
      have h := sp_onk (i := .aload_n 0) (by decide +kernel) rfl h
      have h := sp_getK (jj := 56) (ci := 12) (n := 28) (b := 163) (by decide +kernel) (by decide +kernel) (by decide +kernel) (by decide +kernel) (by decide) hSw1 h
      have h := sp_onk (i := .iload_n 1) (by decide +kernel) rfl h
      have h := sp_onk (i := .dup2) (by decide +kernel) rfl h
      obtain ⟨hi, h⟩ := sp_iald (by decide +kernel) h
      refine ⟨hi, ?_⟩
      have h := sp_onk (i := .iload_n 2) (by decide +kernel) rfl h
      have h := sp_onk (i := .iadd) (by decide +kernel) rfl h
      obtain ⟨hi, h⟩ := sp_iast (by decide +kernel) h
      refine ⟨hi, ?_⟩
      intro w2 ew2
      rw [← ew2] at h
      have hSw2 : SK w2 := by rw [ew2]; exact SK_aS hSw1
      have h := sp_onk (i := .iload_n 1) (by decide +kernel) rfl h
      have h := sp_istore (j := 4) (ls' := [.ref 147, .int i1, .int i2, .int i3, .int i1]) (by decide +kernel) (Nat.le_of_ble_eq_true rfl) rfl h
      exact h
    · refine ite_f hc ?_
      have h := sp_onk (i := .aload_n 0) (by decide +kernel) rfl h
      have h := sp_getK (jj := 56) (ci := 12) (n := 28) (b := 163) (by decide +kernel) (by decide +kernel) (by decide +kernel) (by decide +kernel) (by decide) hS h
      have h := sp_onk (i := .iload_n 3) (by decide +kernel) rfl h
      obtain ⟨hi, h⟩ := sp_iald (by decide +kernel) h
      refine ⟨hi, ?_⟩
      have h := sp_goto (mi := 278) (pc := 86) (off := 4) (t := 90) (by decide +kernel) (by decide) rfl h
      have h := sp_istore_n (j := 2) (ls' := [.ref 147, .int i1, .int (aG w 163 i3), .int i3, u4]) (by decide +kernel) (Nat.le_of_ble_eq_true rfl) rfl h
      have h := sp_onk (i := .aload_n 0) (by decide +kernel) rfl h
      have h := sp_getK (jj := 56) (ci := 12) (n := 28) (b := 163) (by decide +kernel) (by decide +kernel) (by decide +kernel) (by decide +kernel) (by decide) hS h
      have h := sp_onk (i := .iload_n 3) (by decide +kernel) rfl h
      have h := sp_onk (i := .dup2) (by decide +kernel) rfl h
      obtain ⟨hi, h⟩ := sp_iald (by decide +kernel) h
      refine ⟨hi, ?_⟩
      have h := sp_onk (i := .iload_n 2) (by decide +kernel) rfl h
      have h := sp_onk (i := .isub) (by decide +kernel) rfl h
      obtain ⟨hi, h⟩ := sp_iast (by decide +kernel) h
      refine ⟨hi, ?_⟩
      intro w3 ew3
      rw [← ew3] at h
      have hSw3 : SK w3 := by rw [ew3]; exact SK_aS hS
      have h := sp_onk (i := .aload_n 0) (by decide +kernel) rfl h
      have h := sp_getK (jj := 56) (ci := 12) (n := 28) (b := 163) (by decide +kernel) (by decide +kernel) (by decide +kernel) (by decide +kernel) (by decide) hSw3 h
      have h := sp_onk (i := .iload_n 1) (by decide +kernel) rfl h
      have h := sp_onk (i := .dup2) (by decide +kernel) rfl h
      obtain ⟨hi, h⟩ := sp_iald (by decide +kernel) h
      refine ⟨hi, ?_⟩
      have h := sp_onk (i := .iload_n 2) (by decide +kernel) rfl h
      have h := sp_onk (i := .iadd) (by decide +kernel) rfl h
      obtain ⟨hi, h⟩ := sp_iast (by decide +kernel) h
      refine ⟨hi, ?_⟩
      intro w4 ew4
      rw [← ew4] at h
      have hSw4 : SK w4 := by rw [ew4]; exact SK_aS hSw3
      have h := sp_onk (i := .iload_n 1) (by decide +kernel) rfl h
      have h := sp_istore (j := 4) (ls' := [.ref 147, .int i1, .int (aG w 163 i3), .int i3, .int i1]) (by decide +kernel) (Nat.le_of_ble_eq_true rfl) rfl h
      exact h
  · refine ite_f hc ?_
    have h := sp_onk (i := .aload_n 0) (by decide +kernel) rfl h
    have h := sp_onk (i := .aload_n 0) (by decide +kernel) rfl h
    have h := sp_getK (jj := 59) (ci := 12) (n := 29) (b := 164) (by decide +kernel) (by decide +kernel) (by decide +kernel) (by decide +kernel) (by decide) hS h
    have h := sp_onk (i := .iload_n 3) (by decide +kernel) rfl h
    obtain ⟨hi, h⟩ := sp_iald (by decide +kernel) h
    refine ⟨hi, ?_⟩
    have h := sp_onk (i := .iload_n 3) (by decide +kernel) rfl h
    obtain ⟨r5, w6, hc, h⟩ := sp_callV (jj := 314) (mj := 280) (n := 2) (v := .ref 147) (args := [.int i3, .int (aG w 164 i3)]) (ls' := [.ref 147, .int (aG w 164 i3), .int i3]) (by decide +kernel) (by decide +kernel) rfl rfl rfl h
    refine ⟨r5, w6, hc, fun x7 er hSw6 => ?_⟩
    subst er
    have h : PS X k 278 40 [.ref 147, .int i1, .int i2, .int i3, u4] [.int x7] w6 r w' := h
    have h := sp_onk (i := .iload_n 2) (by decide +kernel) rfl h
    rcases sp_icmp_ge (mi := 278) (pc := 41) (off := 17) (t := 58) (by decide +kernel) (by decide) rfl h with ⟨hc, h⟩ | ⟨hc, h⟩
    · refine ite_t hc ?_
      have h := sp_onk (i := .iload_n 2) (by decide +kernel) rfl h
      have h := sp_istore_n (j := 2) (ls' := [.ref 147, .int i1, .int i2, .int i3, u4]) (by decide +kernel) (Nat.le_of_ble_eq_true rfl) rfl h
      have h := sp_onk (i := .aload_n 0) (by decide +kernel) rfl h
      have h := sp_getK (jj := 59) (ci := 12) (n := 29) (b := 164) (by decide +kernel) (by decide +kernel) (by decide +kernel) (by decide +kernel) (by decide) hSw6 h
      have h := sp_onk (i := .iload_n 3) (by decide +kernel) rfl h
      obtain ⟨hi, h⟩ := sp_iald (by decide +kernel) h
      refine ⟨hi, ?_⟩
      have h := sp_istore_n (j := 3) (ls' := [.ref 147, .int i1, .int i2, .int (aG w6 164 i3), u4]) (by decide +kernel) (Nat.le_of_ble_eq_true rfl) rfl h
      have h := sp_goto (mi := 278) (pc := 67) (off := (-48)) (t := 19) (by decide +kernel) (by decide) rfl h
      exact h
    · refine ite_f hc ?_
      have h := sp_onk (i := .aload_n 0) (by decide +kernel) rfl h
      have h := sp_onk (i := .aload_n 0) (by decide +kernel) rfl h
      have h := sp_getK (jj := 59) (ci := 12) (n := 29) (b := 164) (by decide +kernel) (by decide +kernel) (by decide +kernel) (by decide +kernel) (by decide) hSw6 h
      have h := sp_onk (i := .iload_n 3) (by decide +kernel) rfl h
      obtain ⟨hi, h⟩ := sp_iald (by decide +kernel) h
      refine ⟨hi, ?_⟩
      have h := sp_onk (i := .iload_n 3) (by decide +kernel) rfl h
      obtain ⟨r8, w9, hc, h⟩ := sp_callV (jj := 314) (mj := 280) (n := 2) (v := .ref 147) (args := [.int i3, .int (aG w6 164 i3)]) (ls' := [.ref 147, .int (aG w6 164 i3), .int i3]) (by decide +kernel) (by decide +kernel) rfl rfl rfl h
      refine ⟨r8, w9, hc, fun x10 er hSw9 => ?_⟩
      subst er
      have h : PS X k 278 55 [.ref 147, .int i1, .int i2, .int i3, u4] [.int x10] w9 r w' := h
      have h := sp_goto (mi := 278) (pc := 55) (off := 4) (t := 59) (by decide +kernel) (by decide) rfl h
      have h := sp_istore_n (j := 2) (ls' := [.ref 147, .int i1, .int x10, .int i3, u4]) (by decide +kernel) (Nat.le_of_ble_eq_true rfl) rfl h
      have h := sp_onk (i := .aload_n 0) (by decide +kernel) rfl h
      have h := sp_getK (jj := 59) (ci := 12) (n := 29) (b := 164) (by decide +kernel) (by decide +kernel) (by decide +kernel) (by decide +kernel) (by decide) hSw9 h
      have h := sp_onk (i := .iload_n 3) (by decide +kernel) rfl h
      obtain ⟨hi, h⟩ := sp_iald (by decide +kernel) h
      refine ⟨hi, ?_⟩
      have h := sp_istore_n (j := 3) (ls' := [.ref 147, .int i1, .int x10, .int (aG w9 164 i3), u4]) (by decide +kernel) (Nat.le_of_ble_eq_true rfl) rfl h
      have h := sp_goto (mi := 278) (pc := 67) (off := (-48)) (t := 19) (by decide +kernel) (by decide) rfl h
      exact h
set_option maxRecDepth 20000 in
set_option maxHeartbeats 2000000 in
theorem U278_114 {X : pm_X} {k : Nat} {w w' : pm_W} {r : Option Value} {i1 : Int32} {i2 : Int32} {i3 : Int32} {i4 : Int32} (hS : SK w) (h : PS X (k + 1) 278 114 [.ref 147, .int i1, .int i2, .int i3, .int i4] [] w r w') : aI w 164 i4 ∧ (if (aG w 164 i4) = i4 then (∃ (r1 : Option Value) (w2 : pm_W), PS X k 279 0 [.ref 147, pm_dead, pm_dead, pm_dead] [] w r1 w2 ∧ (∀ x3 : Int32, r1 = some (.int x3) → SK w2 → (PS X k 278 5 [.ref 147, .int x3, .int i2, .int i3, .int i4] [] w2 r w'))) else (aI w 164 i4 ∧ (∃ (r4 : Option Value) (w5 : pm_W), PS X k 281 0 [.ref 147, .int (aG w 164 i4), .int i4, .int i2, pm_dead] [] w r4 w5 ∧ (r4 = none → SK w5 → (aI w5 164 i4 ∧ (PS X k 278 114 [.ref 147, .int i1, .int i2, .int i3, .int (aG w5 164 i4)] [] w5 r w')))))) := by
  have h := sp_one (i := .aload_n 0) (by decide +kernel) rfl h
  have h := sp_getK (jj := 59) (ci := 12) (n := 29) (b := 164) (by decide +kernel) (by decide +kernel) (by decide +kernel) (by decide +kernel) (by decide) hS h
  have h := sp_onk (i := .iload 4) (by decide +kernel) rfl h
  obtain ⟨hi, h⟩ := sp_iald (by decide +kernel) h
  refine ⟨hi, ?_⟩
  have h := sp_onk (i := .iload 4) (by decide +kernel) rfl h
  rcases sp_icmp_eq (mi := 278) (pc := 123) (off := 29) (t := 152) (by decide +kernel) (by decide) rfl h with ⟨hc, h⟩ | ⟨hc, h⟩
  · refine ite_t hc ?_
    have h := sp_onk (i := .aload_n 0) (by decide +kernel) rfl h
    obtain ⟨r1, w2, hc, h⟩ := sp_callV (jj := 317) (mj := 279) (n := 0) (v := .ref 147) (args := []) (ls' := [.ref 147, pm_dead, pm_dead, pm_dead]) (by decide +kernel) (by decide +kernel) rfl rfl rfl h
    refine ⟨r1, w2, hc, fun x3 er hSw2 => ?_⟩
    subst er
    have h : PS X k 278 156 [.ref 147, .int i1, .int i2, .int i3, .int i4] [.int x3] w2 r w' := h
    have h := sp_istore_n (j := 1) (ls' := [.ref 147, .int x3, .int i2, .int i3, .int i4]) (by decide +kernel) (Nat.le_of_ble_eq_true rfl) rfl h
    have h := sp_goto (mi := 278) (pc := 157) (off := (-152)) (t := 5) (by decide +kernel) (by decide) rfl h
    exact h
  · refine ite_f hc ?_
    have h := sp_onk (i := .aload_n 0) (by decide +kernel) rfl h
    have h := sp_onk (i := .aload_n 0) (by decide +kernel) rfl h
    have h := sp_getK (jj := 59) (ci := 12) (n := 29) (b := 164) (by decide +kernel) (by decide +kernel) (by decide +kernel) (by decide +kernel) (by decide) hS h
    have h := sp_onk (i := .iload 4) (by decide +kernel) rfl h
    obtain ⟨hi, h⟩ := sp_iald (by decide +kernel) h
    refine ⟨hi, ?_⟩
    have h := sp_onk (i := .iload 4) (by decide +kernel) rfl h
    have h := sp_onk (i := .iload_n 2) (by decide +kernel) rfl h
    obtain ⟨r4, w5, hc, h⟩ := sp_callV (jj := 320) (mj := 281) (n := 3) (v := .ref 147) (args := [.int i2, .int i4, .int (aG w 164 i4)]) (ls' := [.ref 147, .int (aG w 164 i4), .int i4, .int i2, pm_dead]) (by decide +kernel) (by decide +kernel) rfl rfl rfl h
    refine ⟨r4, w5, hc, fun er hSw5 => ?_⟩
    subst er
    have h : PS X k 278 140 [.ref 147, .int i1, .int i2, .int i3, .int i4] [] w5 r w' := h
    have h := sp_onk (i := .aload_n 0) (by decide +kernel) rfl h
    have h := sp_getK (jj := 59) (ci := 12) (n := 29) (b := 164) (by decide +kernel) (by decide +kernel) (by decide +kernel) (by decide +kernel) (by decide) hSw5 h
    have h := sp_onk (i := .iload 4) (by decide +kernel) rfl h
    obtain ⟨hi, h⟩ := sp_iald (by decide +kernel) h
    refine ⟨hi, ?_⟩
    have h := sp_istore (j := 4) (ls' := [.ref 147, .int i1, .int i2, .int i3, .int (aG w5 164 i4)]) (by decide +kernel) (Nat.le_of_ble_eq_true rfl) rfl h
    have h := sp_goto (mi := 278) (pc := 149) (off := (-35)) (t := 114) (by decide +kernel) (by decide) rfl h
    exact h
set_option maxRecDepth 20000 in
set_option maxHeartbeats 2000000 in
theorem U278_164 {X : pm_X} {k : Nat} {w w' : pm_W} {r : Option Value} {i1 : Int32} {i2 : Int32} {i3 : Int32} {u4 : Value} (hS : SK w) (h : PS X (k + 1) 278 164 [.ref 147, .int i1, .int i2, .int i3, u4] [] w r w') : if 10 ≤ i3 then (r = some (.int i2) ∧ w' = w) else (if i2 = 0 then (PS X k 278 187 [.ref 147, .int i1, .int i2, .int i3, u4] [] w r w') else (aI w 163 i3 ∧ (if 0 < (aG w 163 i3) then (PS X k 278 187 [.ref 147, .int i1, .int i2, .int i3, u4] [] w r w') else (PS X k 278 164 [.ref 147, .int i1, .int 1, .int (i3 + 1), u4] [] w r w')))) := by
  have h := sp_one (i := .iload_n 3) (by decide +kernel) rfl h
  have h := sp_bipush (n := 10) (v := 10) (by decide +kernel) (by decide +kernel) h
  rcases sp_icmp_ge (mi := 278) (pc := 167) (off := 28) (t := 195) (by decide +kernel) (by decide) rfl h with ⟨hc, h⟩ | ⟨hc, h⟩
  · refine ite_t hc ?_
    have h := sp_onk (i := .iload_n 2) (by decide +kernel) rfl h
    exact sp_iret (by decide +kernel) h
  · refine ite_f hc ?_
    have h := sp_onk (i := .iload_n 2) (by decide +kernel) rfl h
    rcases sp_if_eq (mi := 278) (pc := 171) (off := 16) (t := 187) (by decide +kernel) (by decide) rfl h with ⟨hc, h⟩ | ⟨hc, h⟩
    · refine ite_t hc ?_
      exact h
    · refine ite_f hc ?_
      have h := sp_onk (i := .aload_n 0) (by decide +kernel) rfl h
      have h := sp_getK (jj := 56) (ci := 12) (n := 28) (b := 163) (by decide +kernel) (by decide +kernel) (by decide +kernel) (by decide +kernel) (by decide) hS h
      have h := sp_onk (i := .iload_n 3) (by decide +kernel) rfl h
      obtain ⟨hi, h⟩ := sp_iald (by decide +kernel) h
      refine ⟨hi, ?_⟩
      rcases sp_if_gt (mi := 278) (pc := 180) (off := 7) (t := 187) (by decide +kernel) (by decide) rfl h with ⟨hc, h⟩ | ⟨hc, h⟩
      · refine ite_t hc ?_
        exact h
      · refine ite_f hc ?_
        have h := sp_iconst (n := 1) (v := 1) (by decide +kernel) (by decide +kernel) h
        have h := sp_goto (mi := 278) (pc := 184) (off := 4) (t := 188) (by decide +kernel) (by decide) rfl h
        have h := sp_istore_n (j := 2) (ls' := [.ref 147, .int i1, .int 1, .int i3, u4]) (by decide +kernel) (Nat.le_of_ble_eq_true rfl) rfl h
        have h := sp_iinc (j := 3) (n := 1) (v := 1) (ls' := [.ref 147, .int i1, .int 1, .int (i3 + 1), u4]) (by decide +kernel) rfl (by decide +kernel) rfl h
        have h := sp_goto (mi := 278) (pc := 192) (off := (-28)) (t := 164) (by decide +kernel) (by decide) rfl h
        exact h
set_option maxRecDepth 20000 in
set_option maxHeartbeats 2000000 in
theorem U278_187 {X : pm_X} {k : Nat} {w w' : pm_W} {r : Option Value} {i1 : Int32} {i2 : Int32} {i3 : Int32} {u4 : Value} (hS : SK w) (h : PS X (k + 1) 278 187 [.ref 147, .int i1, .int i2, .int i3, u4] [] w r w') : PS X k 278 164 [.ref 147, .int i1, .int 0, .int (i3 + 1), u4] [] w r w' := by
  have h := sp_iconst1 (n := 0) (v := 0) (by decide +kernel) (by decide +kernel) h
  have h := sp_istore_n (j := 2) (ls' := [.ref 147, .int i1, .int 0, .int i3, u4]) (by decide +kernel) (Nat.le_of_ble_eq_true rfl) rfl h
  have h := sp_iinc (j := 3) (n := 1) (v := 1) (ls' := [.ref 147, .int i1, .int 0, .int (i3 + 1), u4]) (by decide +kernel) rfl (by decide +kernel) rfl h
  have h := sp_goto (mi := 278) (pc := 192) (off := (-28)) (t := 164) (by decide +kernel) (by decide) rfl h
  exact h
set_option maxRecDepth 20000 in
set_option maxHeartbeats 2000000 in
theorem U279_0 {X : pm_X} {k : Nat} {w w' : pm_W} {r : Option Value} (hS : SK w) (h : PS X (k + 1) 279 0 [.ref 147, pm_dead, pm_dead, pm_dead] [] w r w') : PS X k 279 2 [.ref 147, .int 0, pm_dead, pm_dead] [] w r w' := by
  have h := sp_iconst1 (n := 0) (v := 0) (by decide +kernel) (by decide +kernel) h
  have h := sp_istore_n (j := 1) (ls' := [.ref 147, .int 0, pm_dead, pm_dead]) (by decide +kernel) (Nat.le_of_ble_eq_true rfl) rfl h
  exact h
set_option maxRecDepth 20000 in
set_option maxHeartbeats 2000000 in
theorem U279_2 {X : pm_X} {k : Nat} {w w' : pm_W} {r : Option Value} {i1 : Int32} (hS : SK w) (h : PS X (k + 1) 279 2 [.ref 147, .int i1, pm_dead, pm_dead] [] w r w') : if 10 ≤ i1 then (PS X k 279 36 [.ref 147, .int 1, pm_dead, pm_dead] [] w r w') else (aI w 163 i1 ∧ (if (aG w 163 i1) ≤ 0 then (aI w 164 i1 ∧ (∀ w1 : pm_W, w1 = aS w 164 i1 (-1) → (PS X k 279 2 [.ref 147, .int (i1 + 1), pm_dead, pm_dead] [] w1 r w'))) else (aI w 164 i1 ∧ (∀ w2 : pm_W, w2 = aS w 164 i1 i1 → (PS X k 279 2 [.ref 147, .int (i1 + 1), pm_dead, pm_dead] [] w2 r w'))))) := by
  have h := sp_one (i := .iload_n 1) (by decide +kernel) rfl h
  have h := sp_bipush (n := 10) (v := 10) (by decide +kernel) (by decide +kernel) h
  rcases sp_icmp_ge (mi := 279) (pc := 5) (off := 29) (t := 34) (by decide +kernel) (by decide) rfl h with ⟨hc, h⟩ | ⟨hc, h⟩
  · refine ite_t hc ?_
    have h := sp_iconst (n := 1) (v := 1) (by decide +kernel) (by decide +kernel) h
    have h := sp_istore_n (j := 1) (ls' := [.ref 147, .int 1, pm_dead, pm_dead]) (by decide +kernel) (Nat.le_of_ble_eq_true rfl) rfl h
    exact h
  · refine ite_f hc ?_
    have h := sp_onk (i := .aload_n 0) (by decide +kernel) rfl h
    have h := sp_getK (jj := 59) (ci := 12) (n := 29) (b := 164) (by decide +kernel) (by decide +kernel) (by decide +kernel) (by decide +kernel) (by decide) hS h
    have h := sp_onk (i := .iload_n 1) (by decide +kernel) rfl h
    have h := sp_onk (i := .aload_n 0) (by decide +kernel) rfl h
    have h := sp_getK (jj := 56) (ci := 12) (n := 28) (b := 163) (by decide +kernel) (by decide +kernel) (by decide +kernel) (by decide +kernel) (by decide) hS h
    have h := sp_onk (i := .iload_n 1) (by decide +kernel) rfl h
    obtain ⟨hi, h⟩ := sp_iald (by decide +kernel) h
    refine ⟨hi, ?_⟩
    rcases sp_if_le (mi := 279) (pc := 19) (off := 7) (t := 26) (by decide +kernel) (by decide) rfl h with ⟨hc, h⟩ | ⟨hc, h⟩
    · refine ite_t hc ?_
      have h := sp_iconst (n := (-1)) (v := (-1)) (by decide +kernel) (by decide +kernel) h
      obtain ⟨hi, h⟩ := sp_iast (by decide +kernel) h
      refine ⟨hi, ?_⟩
      intro w1 ew1
      rw [← ew1] at h
      have hSw1 : SK w1 := by rw [ew1]; exact SK_aS hS
      have h := sp_iinc (j := 1) (n := 1) (v := 1) (ls' := [.ref 147, .int (i1 + 1), pm_dead, pm_dead]) (by decide +kernel) rfl (by decide +kernel) rfl h
      have h := sp_goto (mi := 279) (pc := 31) (off := (-29)) (t := 2) (by decide +kernel) (by decide) rfl h
      exact h
    · refine ite_f hc ?_
      have h := sp_onk (i := .iload_n 1) (by decide +kernel) rfl h
      have h := sp_goto (mi := 279) (pc := 23) (off := 4) (t := 27) (by decide +kernel) (by decide) rfl h
      obtain ⟨hi, h⟩ := sp_iast (by decide +kernel) h
      refine ⟨hi, ?_⟩
      intro w2 ew2
      rw [← ew2] at h
      have hSw2 : SK w2 := by rw [ew2]; exact SK_aS hS
      have h := sp_iinc (j := 1) (n := 1) (v := 1) (ls' := [.ref 147, .int (i1 + 1), pm_dead, pm_dead]) (by decide +kernel) rfl (by decide +kernel) rfl h
      have h := sp_goto (mi := 279) (pc := 31) (off := (-29)) (t := 2) (by decide +kernel) (by decide) rfl h
      exact h
set_option maxRecDepth 20000 in
set_option maxHeartbeats 2000000 in
theorem U279_36 {X : pm_X} {k : Nat} {w w' : pm_W} {r : Option Value} {i1 : Int32} {u2 : Value} {u3 : Value} (hS : SK w) (h : PS X (k + 1) 279 36 [.ref 147, .int i1, u2, u3] [] w r w') : if i1 = 0 then (r = some (.int (-1)) ∧ w' = w) else (PS X k 279 44 [.ref 147, .int 0, .int 0, u3] [] w r w') := by
  have h := sp_one (i := .iload_n 1) (by decide +kernel) rfl h
  rcases sp_if_eq (mi := 279) (pc := 37) (off := 91) (t := 128) (by decide +kernel) (by decide) rfl h with ⟨hc, h⟩ | ⟨hc, h⟩
  · refine ite_t hc ?_
    have h := sp_iconst (n := (-1)) (v := (-1)) (by decide +kernel) (by decide +kernel) h
    exact sp_iret (by decide +kernel) h
  · refine ite_f hc ?_
    have h := sp_iconst (n := 0) (v := 0) (by decide +kernel) (by decide +kernel) h
    have h := sp_istore_n (j := 1) (ls' := [.ref 147, .int 0, u2, u3]) (by decide +kernel) (Nat.le_of_ble_eq_true rfl) rfl h
    have h := sp_iconst (n := 0) (v := 0) (by decide +kernel) (by decide +kernel) h
    have h := sp_istore_n (j := 2) (ls' := [.ref 147, .int 0, .int 0, u3]) (by decide +kernel) (Nat.le_of_ble_eq_true rfl) rfl h
    exact h
set_option maxRecDepth 20000 in
set_option maxHeartbeats 2000000 in
theorem U279_44 {X : pm_X} {k : Nat} {w w' : pm_W} {r : Option Value} {i1 : Int32} {i2 : Int32} {u3 : Value} (hS : SK w) (h : PS X (k + 1) 279 44 [.ref 147, .int i1, .int i2, u3] [] w r w') : if 10 ≤ i2 then (PS X k 279 36 [.ref 147, .int i1, .int i2, u3] [] w r w') else (PS X k 279 52 [.ref 147, .int i1, .int i2, .int 0] [] w r w') := by
  have h := sp_one (i := .iload_n 2) (by decide +kernel) rfl h
  have h := sp_bipush (n := 10) (v := 10) (by decide +kernel) (by decide +kernel) h
  rcases sp_icmp_ge (mi := 279) (pc := 47) (off := 78) (t := 125) (by decide +kernel) (by decide) rfl h with ⟨hc, h⟩ | ⟨hc, h⟩
  · refine ite_t hc ?_
    have h := sp_goto (mi := 279) (pc := 125) (off := (-89)) (t := 36) (by decide +kernel) (by decide) rfl h
    exact h
  · refine ite_f hc ?_
    have h := sp_iconst (n := 0) (v := 0) (by decide +kernel) (by decide +kernel) h
    have h := sp_istore_n (j := 3) (ls' := [.ref 147, .int i1, .int i2, .int 0]) (by decide +kernel) (Nat.le_of_ble_eq_true rfl) rfl h
    exact h
set_option maxRecDepth 20000 in
set_option maxHeartbeats 2000000 in
theorem U279_52 {X : pm_X} {k : Nat} {w w' : pm_W} {r : Option Value} {i1 : Int32} {i2 : Int32} {i3 : Int32} (hS : SK w) (h : PS X (k + 1) 279 52 [.ref 147, .int i1, .int i2, .int i3] [] w r w') : if 10 ≤ i3 then (PS X k 279 44 [.ref 147, .int i1, .int (i2 + 1), .int i3] [] w r w') else (aI w 164 i2 ∧ (if (aG w 164 i2) < 0 then (PS X k 279 52 [.ref 147, .int i1, .int i2, .int (i3 + 1)] [] w r w') else (aI w 164 i3 ∧ (if 0 ≤ (aG w 164 i3) then (PS X k 279 52 [.ref 147, .int i1, .int i2, .int (i3 + 1)] [] w r w') else (if i2 = i3 then (PS X k 279 52 [.ref 147, .int i1, .int i2, .int (i3 + 1)] [] w r w') else (∃ (r1 : Option Value) (w2 : pm_W), PS X k 280 0 [.ref 147, .int i2, .int i3] [] w r1 w2 ∧ (∀ x3 : Int32, r1 = some (.int x3) → SK w2 → (if 0 < x3 then (aI w2 164 i3 ∧ (∀ w4 : pm_W, w4 = aS w2 164 i3 i2 → (aI w4 163 i3 ∧ (if 0 ≤ (aG w4 163 i3) then (PS X k 279 52 [.ref 147, .int 1, .int i2, .int (i3 + 1)] [] w4 r w') else (r = some (.int i3) ∧ w' = w4))))) else (PS X k 279 52 [.ref 147, .int i1, .int i2, .int (i3 + 1)] [] w2 r w'))))))))) := by
  have h := sp_one (i := .iload_n 3) (by decide +kernel) rfl h
  have h := sp_bipush (n := 10) (v := 10) (by decide +kernel) (by decide +kernel) h
  rcases sp_icmp_ge (mi := 279) (pc := 55) (off := 64) (t := 119) (by decide +kernel) (by decide) rfl h with ⟨hc, h⟩ | ⟨hc, h⟩
  · refine ite_t hc ?_
    have h := sp_iinc (j := 2) (n := 1) (v := 1) (ls' := [.ref 147, .int i1, .int (i2 + 1), .int i3]) (by decide +kernel) rfl (by decide +kernel) rfl h
    have h := sp_goto (mi := 279) (pc := 122) (off := (-78)) (t := 44) (by decide +kernel) (by decide) rfl h
    exact h
  · refine ite_f hc ?_
    have h := sp_onk (i := .aload_n 0) (by decide +kernel) rfl h
    have h := sp_getK (jj := 59) (ci := 12) (n := 29) (b := 164) (by decide +kernel) (by decide +kernel) (by decide +kernel) (by decide +kernel) (by decide) hS h
    have h := sp_onk (i := .iload_n 2) (by decide +kernel) rfl h
    obtain ⟨hi, h⟩ := sp_iald (by decide +kernel) h
    refine ⟨hi, ?_⟩
    rcases sp_if_lt (mi := 279) (pc := 64) (off := 49) (t := 113) (by decide +kernel) (by decide) rfl h with ⟨hc, h⟩ | ⟨hc, h⟩
    · refine ite_t hc ?_
      have h := sp_iinc (j := 3) (n := 1) (v := 1) (ls' := [.ref 147, .int i1, .int i2, .int (i3 + 1)]) (by decide +kernel) rfl (by decide +kernel) rfl h
      have h := sp_goto (mi := 279) (pc := 116) (off := (-64)) (t := 52) (by decide +kernel) (by decide) rfl h
      exact h
    · refine ite_f hc ?_
      have h := sp_onk (i := .aload_n 0) (by decide +kernel) rfl h
      have h := sp_getK (jj := 59) (ci := 12) (n := 29) (b := 164) (by decide +kernel) (by decide +kernel) (by decide +kernel) (by decide +kernel) (by decide) hS h
      have h := sp_onk (i := .iload_n 3) (by decide +kernel) rfl h
      obtain ⟨hi, h⟩ := sp_iald (by decide +kernel) h
      refine ⟨hi, ?_⟩
      rcases sp_if_ge (mi := 279) (pc := 73) (off := 40) (t := 113) (by decide +kernel) (by decide) rfl h with ⟨hc, h⟩ | ⟨hc, h⟩
      · refine ite_t hc ?_
        have h := sp_iinc (j := 3) (n := 1) (v := 1) (ls' := [.ref 147, .int i1, .int i2, .int (i3 + 1)]) (by decide +kernel) rfl (by decide +kernel) rfl h
        have h := sp_goto (mi := 279) (pc := 116) (off := (-64)) (t := 52) (by decide +kernel) (by decide) rfl h
        exact h
      · refine ite_f hc ?_
        have h := sp_onk (i := .iload_n 2) (by decide +kernel) rfl h
        have h := sp_onk (i := .iload_n 3) (by decide +kernel) rfl h
        rcases sp_icmp_eq (mi := 279) (pc := 78) (off := 35) (t := 113) (by decide +kernel) (by decide) rfl h with ⟨hc, h⟩ | ⟨hc, h⟩
        · refine ite_t hc ?_
          have h := sp_iinc (j := 3) (n := 1) (v := 1) (ls' := [.ref 147, .int i1, .int i2, .int (i3 + 1)]) (by decide +kernel) rfl (by decide +kernel) rfl h
          have h := sp_goto (mi := 279) (pc := 116) (off := (-64)) (t := 52) (by decide +kernel) (by decide) rfl h
          exact h
        · refine ite_f hc ?_
          have h := sp_onk (i := .aload_n 0) (by decide +kernel) rfl h
          have h := sp_onk (i := .iload_n 2) (by decide +kernel) rfl h
          have h := sp_onk (i := .iload_n 3) (by decide +kernel) rfl h
          obtain ⟨r1, w2, hc, h⟩ := sp_callV (jj := 314) (mj := 280) (n := 2) (v := .ref 147) (args := [.int i3, .int i2]) (ls' := [.ref 147, .int i2, .int i3]) (by decide +kernel) (by decide +kernel) rfl rfl rfl h
          refine ⟨r1, w2, hc, fun x3 er hSw2 => ?_⟩
          subst er
          have h : PS X k 279 87 [.ref 147, .int i1, .int i2, .int i3] [.int x3] w2 r w' := h
          rcases sp_if_gt (mi := 279) (pc := 87) (off := 6) (t := 93) (by decide +kernel) (by decide) rfl h with ⟨hc, h⟩ | ⟨hc, h⟩
          · refine ite_t hc ?_
            have h := sp_onk (i := .aload_n 0) (by decide +kernel) rfl h
            have h := sp_getK (jj := 59) (ci := 12) (n := 29) (b := 164) (by decide +kernel) (by decide +kernel) (by decide +kernel) (by decide +kernel) (by decide) hSw2 h
            have h := sp_onk (i := .iload_n 3) (by decide +kernel) rfl h
            have h := sp_onk (i := .iload_n 2) (by decide +kernel) rfl h
            obtain ⟨hi, h⟩ := sp_iast (by decide +kernel) h
            refine ⟨hi, ?_⟩
            intro w4 ew4
            rw [← ew4] at h
            have hSw4 : SK w4 := by rw [ew4]; exact SK_aS hSw2
            have h := sp_iconst (n := 1) (v := 1) (by decide +kernel) (by decide +kernel) h
            have h := sp_istore_n (j := 1) (ls' := [.ref 147, .int 1, .int i2, .int i3]) (by decide +kernel) (Nat.le_of_ble_eq_true rfl) rfl h
            have h := sp_onk (i := .aload_n 0) (by decide +kernel) rfl h
            have h := sp_getK (jj := 56) (ci := 12) (n := 28) (b := 163) (by decide +kernel) (by decide +kernel) (by decide +kernel) (by decide +kernel) (by decide) hSw4 h
            have h := sp_onk (i := .iload_n 3) (by decide +kernel) rfl h
            obtain ⟨hi, h⟩ := sp_iald (by decide +kernel) h
            refine ⟨hi, ?_⟩
            rcases sp_if_ge (mi := 279) (pc := 108) (off := 5) (t := 113) (by decide +kernel) (by decide) rfl h with ⟨hc, h⟩ | ⟨hc, h⟩
            · refine ite_t hc ?_
              have h := sp_iinc (j := 3) (n := 1) (v := 1) (ls' := [.ref 147, .int 1, .int i2, .int (i3 + 1)]) (by decide +kernel) rfl (by decide +kernel) rfl h
              have h := sp_goto (mi := 279) (pc := 116) (off := (-64)) (t := 52) (by decide +kernel) (by decide) rfl h
              exact h
            · refine ite_f hc ?_
              have h := sp_onk (i := .iload_n 3) (by decide +kernel) rfl h
              exact sp_iret (by decide +kernel) h
          · refine ite_f hc ?_
            have h := sp_goto (mi := 279) (pc := 90) (off := 23) (t := 113) (by decide +kernel) (by decide) rfl h
            have h := sp_iinc (j := 3) (n := 1) (v := 1) (ls' := [.ref 147, .int i1, .int i2, .int (i3 + 1)]) (by decide +kernel) rfl (by decide +kernel) rfl h
            have h := sp_goto (mi := 279) (pc := 116) (off := (-64)) (t := 52) (by decide +kernel) (by decide) rfl h
            exact h
set_option maxRecDepth 20000 in
set_option maxHeartbeats 2000000 in
theorem U280_0 {X : pm_X} {k : Nat} {w w' : pm_W} {r : Option Value} {p1 : Int32} {p2 : Int32} (hS : SK w) (h : PS X (k + 1) 280 0 [.ref 147, .int p1, .int p2] [] w r w') : aI w 161 ((10 * p1) + p2) ∧ (aI w 160 ((10 * p1) + p2) ∧ (aI w 162 ((10 * p1) + p2) ∧ (aI w 162 ((10 * p2) + p1) ∧ (r = some (.int ((((aG w 161 ((10 * p1) + p2)) - (aG w 160 ((10 * p1) + p2))) - (aG w 162 ((10 * p1) + p2))) + (aG w 162 ((10 * p2) + p1)))) ∧ w' = w)))) := by
  have h := sp_one (i := .aload_n 0) (by decide +kernel) rfl h
  have h := sp_getK (jj := 50) (ci := 12) (n := 26) (b := 161) (by decide +kernel) (by decide +kernel) (by decide +kernel) (by decide +kernel) (by decide) hS h
  have h := sp_bipush (n := 10) (v := 10) (by decide +kernel) (by decide +kernel) h
  have h := sp_onk (i := .iload_n 1) (by decide +kernel) rfl h
  have h := sp_onk (i := .imul) (by decide +kernel) rfl h
  have h := sp_onk (i := .iload_n 2) (by decide +kernel) rfl h
  have h := sp_onk (i := .iadd) (by decide +kernel) rfl h
  obtain ⟨hi, h⟩ := sp_iald (by decide +kernel) h
  refine ⟨hi, ?_⟩
  have h := sp_onk (i := .aload_n 0) (by decide +kernel) rfl h
  have h := sp_getK (jj := 47) (ci := 12) (n := 25) (b := 160) (by decide +kernel) (by decide +kernel) (by decide +kernel) (by decide +kernel) (by decide) hS h
  have h := sp_bipush (n := 10) (v := 10) (by decide +kernel) (by decide +kernel) h
  have h := sp_onk (i := .iload_n 1) (by decide +kernel) rfl h
  have h := sp_onk (i := .imul) (by decide +kernel) rfl h
  have h := sp_onk (i := .iload_n 2) (by decide +kernel) rfl h
  have h := sp_onk (i := .iadd) (by decide +kernel) rfl h
  obtain ⟨hi, h⟩ := sp_iald (by decide +kernel) h
  refine ⟨hi, ?_⟩
  have h := sp_onk (i := .isub) (by decide +kernel) rfl h
  have h := sp_onk (i := .aload_n 0) (by decide +kernel) rfl h
  have h := sp_getK (jj := 53) (ci := 12) (n := 27) (b := 162) (by decide +kernel) (by decide +kernel) (by decide +kernel) (by decide +kernel) (by decide) hS h
  have h := sp_bipush (n := 10) (v := 10) (by decide +kernel) (by decide +kernel) h
  have h := sp_onk (i := .iload_n 1) (by decide +kernel) rfl h
  have h := sp_onk (i := .imul) (by decide +kernel) rfl h
  have h := sp_onk (i := .iload_n 2) (by decide +kernel) rfl h
  have h := sp_onk (i := .iadd) (by decide +kernel) rfl h
  obtain ⟨hi, h⟩ := sp_iald (by decide +kernel) h
  refine ⟨hi, ?_⟩
  have h := sp_onk (i := .isub) (by decide +kernel) rfl h
  have h := sp_onk (i := .aload_n 0) (by decide +kernel) rfl h
  have h := sp_getK (jj := 53) (ci := 12) (n := 27) (b := 162) (by decide +kernel) (by decide +kernel) (by decide +kernel) (by decide +kernel) (by decide) hS h
  have h := sp_bipush (n := 10) (v := 10) (by decide +kernel) (by decide +kernel) h
  have h := sp_onk (i := .iload_n 2) (by decide +kernel) rfl h
  have h := sp_onk (i := .imul) (by decide +kernel) rfl h
  have h := sp_onk (i := .iload_n 1) (by decide +kernel) rfl h
  have h := sp_onk (i := .iadd) (by decide +kernel) rfl h
  obtain ⟨hi, h⟩ := sp_iald (by decide +kernel) h
  refine ⟨hi, ?_⟩
  have h := sp_onk (i := .iadd) (by decide +kernel) rfl h
  exact sp_iret (by decide +kernel) h
set_option maxRecDepth 20000 in
set_option maxHeartbeats 2000000 in
theorem U281_0 {X : pm_X} {k : Nat} {w w' : pm_W} {r : Option Value} {p1 : Int32} {p2 : Int32} {p3 : Int32} (hS : SK w) (h : PS X (k + 1) 281 0 [.ref 147, .int p1, .int p2, .int p3, pm_dead] [] w r w') : aI w 162 ((10 * p2) + p1) ∧ (if p3 ≤ (aG w 162 ((10 * p2) + p1)) then (aI w 162 ((10 * p2) + p1) ∧ (aI w 162 ((10 * p2) + p1) ∧ (∀ w1 : pm_W, w1 = aS w 162 ((10 * p2) + p1) ((aG w 162 ((10 * p2) + p1)) - p3) → (aI w1 162 ((10 * p1) + p2) ∧ (aI w1 162 ((10 * p1) + p2) ∧ (∀ w2 : pm_W, w2 = aS w1 162 ((10 * p1) + p2) ((aG w1 162 ((10 * p1) + p2)) + (p3 - p3)) → (r = none ∧ w' = w2))))))) else (aI w 162 ((10 * p2) + p1) ∧ (aI w 162 ((10 * p2) + p1) ∧ (aI w 162 ((10 * p2) + p1) ∧ (∀ w3 : pm_W, w3 = aS w 162 ((10 * p2) + p1) ((aG w 162 ((10 * p2) + p1)) - (aG w 162 ((10 * p2) + p1))) → (aI w3 162 ((10 * p1) + p2) ∧ (aI w3 162 ((10 * p1) + p2) ∧ (∀ w4 : pm_W, w4 = aS w3 162 ((10 * p1) + p2) ((aG w3 162 ((10 * p1) + p2)) + (p3 - (aG w 162 ((10 * p2) + p1)))) → (r = none ∧ w' = w4))))))))) := by
  have h := sp_one (i := .aload_n 0) (by decide +kernel) rfl h
  have h := sp_getK (jj := 53) (ci := 12) (n := 27) (b := 162) (by decide +kernel) (by decide +kernel) (by decide +kernel) (by decide +kernel) (by decide) hS h
  have h := sp_bipush (n := 10) (v := 10) (by decide +kernel) (by decide +kernel) h
  have h := sp_onk (i := .iload_n 2) (by decide +kernel) rfl h
  have h := sp_onk (i := .imul) (by decide +kernel) rfl h
  have h := sp_onk (i := .iload_n 1) (by decide +kernel) rfl h
  have h := sp_onk (i := .iadd) (by decide +kernel) rfl h
  obtain ⟨hi, h⟩ := sp_iald (by decide +kernel) h
  refine ⟨hi, ?_⟩
  have h := sp_onk (i := .iload_n 3) (by decide +kernel) rfl h
  rcases sp_icmp_ge (mi := 281) (pc := 12) (off := 17) (t := 29) (by decide +kernel) (by decide) rfl h with ⟨hc, h⟩ | ⟨hc, h⟩
  · refine ite_t hc ?_
    have h := sp_onk (i := .iload_n 3) (by decide +kernel) rfl h
    have h := sp_istore (j := 4) (ls' := [.ref 147, .int p1, .int p2, .int p3, .int p3]) (by decide +kernel) (Nat.le_of_ble_eq_true rfl) rfl h
    have h := sp_onk (i := .aload_n 0) (by decide +kernel) rfl h
    have h := sp_getK (jj := 53) (ci := 12) (n := 27) (b := 162) (by decide +kernel) (by decide +kernel) (by decide +kernel) (by decide +kernel) (by decide) hS h
    have h := sp_bipush (n := 10) (v := 10) (by decide +kernel) (by decide +kernel) h
    have h := sp_onk (i := .iload_n 2) (by decide +kernel) rfl h
    have h := sp_onk (i := .imul) (by decide +kernel) rfl h
    have h := sp_onk (i := .iload_n 1) (by decide +kernel) rfl h
    have h := sp_onk (i := .iadd) (by decide +kernel) rfl h
    have h := sp_onk (i := .dup2) (by decide +kernel) rfl h
    obtain ⟨hi, h⟩ := sp_iald (by decide +kernel) h
    refine ⟨hi, ?_⟩
    have h := sp_onk (i := .iload 4) (by decide +kernel) rfl h
    have h := sp_onk (i := .isub) (by decide +kernel) rfl h
    obtain ⟨hi, h⟩ := sp_iast (by decide +kernel) h
    refine ⟨hi, ?_⟩
    intro w1 ew1
    rw [← ew1] at h
    have hSw1 : SK w1 := by rw [ew1]; exact SK_aS hS
    have h := sp_onk (i := .aload_n 0) (by decide +kernel) rfl h
    have h := sp_getK (jj := 53) (ci := 12) (n := 27) (b := 162) (by decide +kernel) (by decide +kernel) (by decide +kernel) (by decide +kernel) (by decide) hSw1 h
    have h := sp_bipush (n := 10) (v := 10) (by decide +kernel) (by decide +kernel) h
    have h := sp_onk (i := .iload_n 1) (by decide +kernel) rfl h
    have h := sp_onk (i := .imul) (by decide +kernel) rfl h
    have h := sp_onk (i := .iload_n 2) (by decide +kernel) rfl h
    have h := sp_onk (i := .iadd) (by decide +kernel) rfl h
    have h := sp_onk (i := .dup2) (by decide +kernel) rfl h
    obtain ⟨hi, h⟩ := sp_iald (by decide +kernel) h
    refine ⟨hi, ?_⟩
    have h := sp_onk (i := .iload_n 3) (by decide +kernel) rfl h
    have h := sp_onk (i := .iload 4) (by decide +kernel) rfl h
    have h := sp_onk (i := .isub) (by decide +kernel) rfl h
    have h := sp_onk (i := .iadd) (by decide +kernel) rfl h
    obtain ⟨hi, h⟩ := sp_iast (by decide +kernel) h
    refine ⟨hi, ?_⟩
    intro w2 ew2
    rw [← ew2] at h
    have hSw2 : SK w2 := by rw [ew2]; exact SK_aS hSw1
    exact sp_vret (by decide +kernel) h
  · refine ite_f hc ?_
    have h := sp_onk (i := .aload_n 0) (by decide +kernel) rfl h
    have h := sp_getK (jj := 53) (ci := 12) (n := 27) (b := 162) (by decide +kernel) (by decide +kernel) (by decide +kernel) (by decide +kernel) (by decide) hS h
    have h := sp_bipush (n := 10) (v := 10) (by decide +kernel) (by decide +kernel) h
    have h := sp_onk (i := .iload_n 2) (by decide +kernel) rfl h
    have h := sp_onk (i := .imul) (by decide +kernel) rfl h
    have h := sp_onk (i := .iload_n 1) (by decide +kernel) rfl h
    have h := sp_onk (i := .iadd) (by decide +kernel) rfl h
    obtain ⟨hi, h⟩ := sp_iald (by decide +kernel) h
    refine ⟨hi, ?_⟩
    have h := sp_goto (mi := 281) (pc := 26) (off := 4) (t := 30) (by decide +kernel) (by decide) rfl h
    have h := sp_istore (j := 4) (ls' := [.ref 147, .int p1, .int p2, .int p3, .int (aG w 162 ((10 * p2) + p1))]) (by decide +kernel) (Nat.le_of_ble_eq_true rfl) rfl h
    have h := sp_onk (i := .aload_n 0) (by decide +kernel) rfl h
    have h := sp_getK (jj := 53) (ci := 12) (n := 27) (b := 162) (by decide +kernel) (by decide +kernel) (by decide +kernel) (by decide +kernel) (by decide) hS h
    have h := sp_bipush (n := 10) (v := 10) (by decide +kernel) (by decide +kernel) h
    have h := sp_onk (i := .iload_n 2) (by decide +kernel) rfl h
    have h := sp_onk (i := .imul) (by decide +kernel) rfl h
    have h := sp_onk (i := .iload_n 1) (by decide +kernel) rfl h
    have h := sp_onk (i := .iadd) (by decide +kernel) rfl h
    have h := sp_onk (i := .dup2) (by decide +kernel) rfl h
    obtain ⟨hi, h⟩ := sp_iald (by decide +kernel) h
    refine ⟨hi, ?_⟩
    have h := sp_onk (i := .iload 4) (by decide +kernel) rfl h
    have h := sp_onk (i := .isub) (by decide +kernel) rfl h
    obtain ⟨hi, h⟩ := sp_iast (by decide +kernel) h
    refine ⟨hi, ?_⟩
    intro w3 ew3
    rw [← ew3] at h
    have hSw3 : SK w3 := by rw [ew3]; exact SK_aS hS
    have h := sp_onk (i := .aload_n 0) (by decide +kernel) rfl h
    have h := sp_getK (jj := 53) (ci := 12) (n := 27) (b := 162) (by decide +kernel) (by decide +kernel) (by decide +kernel) (by decide +kernel) (by decide) hSw3 h
    have h := sp_bipush (n := 10) (v := 10) (by decide +kernel) (by decide +kernel) h
    have h := sp_onk (i := .iload_n 1) (by decide +kernel) rfl h
    have h := sp_onk (i := .imul) (by decide +kernel) rfl h
    have h := sp_onk (i := .iload_n 2) (by decide +kernel) rfl h
    have h := sp_onk (i := .iadd) (by decide +kernel) rfl h
    have h := sp_onk (i := .dup2) (by decide +kernel) rfl h
    obtain ⟨hi, h⟩ := sp_iald (by decide +kernel) h
    refine ⟨hi, ?_⟩
    have h := sp_onk (i := .iload_n 3) (by decide +kernel) rfl h
    have h := sp_onk (i := .iload 4) (by decide +kernel) rfl h
    have h := sp_onk (i := .isub) (by decide +kernel) rfl h
    have h := sp_onk (i := .iadd) (by decide +kernel) rfl h
    obtain ⟨hi, h⟩ := sp_iast (by decide +kernel) h
    refine ⟨hi, ?_⟩
    intro w4 ew4
    rw [← ew4] at h
    have hSw4 : SK w4 := by rw [ew4]; exact SK_aS hSw3
    exact sp_vret (by decide +kernel) h
set_option maxRecDepth 20000 in
set_option maxHeartbeats 2000000 in
theorem U284_0 {X : pm_X} {k : Nat} {w w' : pm_W} {r : Option Value} {p1 : Int32} {p2 : Int32} {p3 : Int32} {p4 : Int32} (hS : SK w) (h : PS X (k + 1) 284 0 [.ref 147, .int p1, .int p2, .int p3, .int p4, pm_dead, pm_dead] [] w r w') : PS X k 284 3 [.ref 147, .int p1, .int p2, .int p3, .int p4, .int 0, pm_dead] [] w r w' := by
  have h := sp_iconst1 (n := 0) (v := 0) (by decide +kernel) (by decide +kernel) h
  have h := sp_istore (j := 5) (ls' := [.ref 147, .int p1, .int p2, .int p3, .int p4, .int 0, pm_dead]) (by decide +kernel) (Nat.le_of_ble_eq_true rfl) rfl h
  exact h
set_option maxRecDepth 20000 in
set_option maxHeartbeats 2000000 in
theorem U284_3 {X : pm_X} {k : Nat} {w w' : pm_W} {r : Option Value} {i1 : Int32} {i2 : Int32} {i3 : Int32} {i4 : Int32} {i5 : Int32} (hS : SK w) (h : PS X (k + 1) 284 3 [.ref 147, .int i1, .int i2, .int i3, .int i4, .int i5, pm_dead] [] w r w') : aI w 148 (i1 + 1) ∧ (if (aG w 148 (i1 + 1)) ≤ i5 then (∃ (r1 : Option Value) (w2 : pm_W), PS X k 285 0 [.ref 147, .int i1, .int i2, pm_dead, pm_dead, pm_dead] [] w r1 w2 ∧ (r1 = none → SK w2 → (PS X k 284 69 [.ref 147, .int i1, .int i2, .int i3, .int i4, .int 0, pm_dead] [] w2 r w'))) else (if ((i2 >>> (i5 &&& 31)) &&& 1) = 1 then (∃ (r3 : Option Value) (w4 : pm_W), PS X k 224 0 [.ref 147, .int i1, .int i5, .int 0] [] w r3 w4 ∧ (∀ x5 : Int32, r3 = some (.int x5) → SK w4 → (if x5 = i4 then (PS X k 284 52 [.ref 147, .int i1, .int i2, .int i3, .int i4, .int i5, pm_dead] [] w4 r w') else (∃ (r6 : Option Value) (w7 : pm_W), PS X k 224 0 [.ref 147, .int i1, .int i5, .int 1] [] w4 r6 w7 ∧ (∀ x8 : Int32, r6 = some (.int x8) → SK w7 → (if x8 = i4 then (PS X k 284 52 [.ref 147, .int i1, .int i2, .int i3, .int i4, .int i5, pm_dead] [] w7 r w') else (PS X k 284 54 [.ref 147, .int i1, .int i2, .int i3, .int i4, .int i5, pm_dead] [] w7 r w'))))))) else (PS X k 284 54 [.ref 147, .int i1, .int i2, .int i3, .int i4, .int i5, pm_dead] [] w r w'))) := by
  have h := sp_one (i := .iload 5) (by decide +kernel) rfl h
  have h := sp_onk (i := .aload_n 0) (by decide +kernel) rfl h
  have h := sp_getK (jj := 7) (ci := 12) (n := 0) (b := 148) (by decide +kernel) (by decide +kernel) (by decide +kernel) (by decide +kernel) (by decide) hS h
  have h := sp_onk (i := .iload_n 1) (by decide +kernel) rfl h
  have h := sp_iconst (n := 1) (v := 1) (by decide +kernel) (by decide +kernel) h
  have h := sp_onk (i := .iadd) (by decide +kernel) rfl h
  obtain ⟨hi, h⟩ := sp_iald (by decide +kernel) h
  refine ⟨hi, ?_⟩
  rcases sp_icmp_ge (mi := 284) (pc := 13) (off := 47) (t := 60) (by decide +kernel) (by decide) rfl h with ⟨hc, h⟩ | ⟨hc, h⟩
  · refine ite_t hc ?_
    have h := sp_onk (i := .aload_n 0) (by decide +kernel) rfl h
    have h := sp_onk (i := .iload_n 1) (by decide +kernel) rfl h
    have h := sp_onk (i := .iload_n 2) (by decide +kernel) rfl h
    obtain ⟨r1, w2, hc, h⟩ := sp_callV (jj := 331) (mj := 285) (n := 2) (v := .ref 147) (args := [.int i2, .int i1]) (ls' := [.ref 147, .int i1, .int i2, pm_dead, pm_dead, pm_dead]) (by decide +kernel) (by decide +kernel) rfl rfl rfl h
    refine ⟨r1, w2, hc, fun er hSw2 => ?_⟩
    subst er
    have h : PS X k 284 66 [.ref 147, .int i1, .int i2, .int i3, .int i4, .int i5, pm_dead] [] w2 r w' := h
    have h := sp_iconst (n := 0) (v := 0) (by decide +kernel) (by decide +kernel) h
    have h := sp_istore (j := 5) (ls' := [.ref 147, .int i1, .int i2, .int i3, .int i4, .int 0, pm_dead]) (by decide +kernel) (Nat.le_of_ble_eq_true rfl) rfl h
    exact h
  · refine ite_f hc ?_
    have h := sp_onk (i := .iload_n 2) (by decide +kernel) rfl h
    have h := sp_onk (i := .iload 5) (by decide +kernel) rfl h
    have h := sp_onk (i := .ishr) (by decide +kernel) rfl h
    have h := sp_iconst (n := 1) (v := 1) (by decide +kernel) (by decide +kernel) h
    have h := sp_onk (i := .iand) (by decide +kernel) rfl h
    have h := sp_iconst (n := 1) (v := 1) (by decide +kernel) (by decide +kernel) h
    rcases sp_icmp_ne (mi := 284) (pc := 23) (off := 31) (t := 54) (by decide +kernel) (by decide) rfl h with ⟨hc, h⟩ | ⟨hc, h⟩
    · refine ite_f hc ?_
      exact h
    · refine ite_t (Classical.not_not.mp hc) ?_
      have h := sp_onk (i := .aload_n 0) (by decide +kernel) rfl h
      have h := sp_onk (i := .iload_n 1) (by decide +kernel) rfl h
      have h := sp_onk (i := .iload 5) (by decide +kernel) rfl h
      have h := sp_iconst (n := 0) (v := 0) (by decide +kernel) (by decide +kernel) h
      obtain ⟨r3, w4, hc, h⟩ := sp_callV (jj := 172) (mj := 224) (n := 3) (v := .ref 147) (args := [.int 0, .int i5, .int i1]) (ls' := [.ref 147, .int i1, .int i5, .int 0]) (by decide +kernel) (by decide +kernel) rfl rfl rfl h
      refine ⟨r3, w4, hc, fun x5 er hSw4 => ?_⟩
      subst er
      have h : PS X k 284 34 [.ref 147, .int i1, .int i2, .int i3, .int i4, .int i5, pm_dead] [.int x5] w4 r w' := h
      have h := sp_onk (i := .iload 4) (by decide +kernel) rfl h
      rcases sp_icmp_eq (mi := 284) (pc := 36) (off := 16) (t := 52) (by decide +kernel) (by decide) rfl h with ⟨hc, h⟩ | ⟨hc, h⟩
      · refine ite_t hc ?_
        exact h
      · refine ite_f hc ?_
        have h := sp_onk (i := .aload_n 0) (by decide +kernel) rfl h
        have h := sp_onk (i := .iload_n 1) (by decide +kernel) rfl h
        have h := sp_onk (i := .iload 5) (by decide +kernel) rfl h
        have h := sp_iconst (n := 1) (v := 1) (by decide +kernel) (by decide +kernel) h
        obtain ⟨r6, w7, hc, h⟩ := sp_callV (jj := 172) (mj := 224) (n := 3) (v := .ref 147) (args := [.int 1, .int i5, .int i1]) (ls' := [.ref 147, .int i1, .int i5, .int 1]) (by decide +kernel) (by decide +kernel) rfl rfl rfl h
        refine ⟨r6, w7, hc, fun x8 er hSw7 => ?_⟩
        subst er
        have h : PS X k 284 47 [.ref 147, .int i1, .int i2, .int i3, .int i4, .int i5, pm_dead] [.int x8] w7 r w' := h
        have h := sp_onk (i := .iload 4) (by decide +kernel) rfl h
        rcases sp_icmp_ne (mi := 284) (pc := 49) (off := 5) (t := 54) (by decide +kernel) (by decide) rfl h with ⟨hc, h⟩ | ⟨hc, h⟩
        · refine ite_f hc ?_
          exact h
        · refine ite_t (Classical.not_not.mp hc) ?_
          exact h
set_option maxRecDepth 20000 in
set_option maxHeartbeats 2000000 in
theorem U284_52 {X : pm_X} {k : Nat} {w w' : pm_W} {r : Option Value} {i1 : Int32} {i2 : Int32} {i3 : Int32} {i4 : Int32} {i5 : Int32} (hS : SK w) (h : PS X (k + 1) 284 52 [.ref 147, .int i1, .int i2, .int i3, .int i4, .int i5, pm_dead] [] w r w') : r = some (.int 0) ∧ w' = w := by
  have h := sp_iconst1 (n := 0) (v := 0) (by decide +kernel) (by decide +kernel) h
  exact sp_iret (by decide +kernel) h
set_option maxRecDepth 20000 in
set_option maxHeartbeats 2000000 in
theorem U284_54 {X : pm_X} {k : Nat} {w w' : pm_W} {r : Option Value} {i1 : Int32} {i2 : Int32} {i3 : Int32} {i4 : Int32} {i5 : Int32} (hS : SK w) (h : PS X (k + 1) 284 54 [.ref 147, .int i1, .int i2, .int i3, .int i4, .int i5, pm_dead] [] w r w') : PS X k 284 3 [.ref 147, .int i1, .int i2, .int i3, .int i4, .int (i5 + 1), pm_dead] [] w r w' := by
  have h := sp_iinc1 (j := 5) (n := 1) (v := 1) (ls' := [.ref 147, .int i1, .int i2, .int i3, .int i4, .int (i5 + 1), pm_dead]) (by decide +kernel) rfl (by decide +kernel) rfl h
  have h := sp_goto (mi := 284) (pc := 57) (off := (-54)) (t := 3) (by decide +kernel) (by decide) rfl h
  exact h
set_option maxRecDepth 20000 in
set_option maxHeartbeats 2000000 in
theorem U284_69 {X : pm_X} {k : Nat} {w w' : pm_W} {r : Option Value} {i1 : Int32} {i2 : Int32} {i3 : Int32} {i4 : Int32} {i5 : Int32} {u6 : Value} (hS : SK w) (h : PS X (k + 1) 284 69 [.ref 147, .int i1, .int i2, .int i3, .int i4, .int i5, u6] [] w r w') : aI w 148 i1 ∧ (if (aG w 148 i1) ≤ i5 then (∃ (r1 : Option Value) (w2 : pm_W), PS X k 278 0 [.ref 147, pm_dead, pm_dead, pm_dead, pm_dead] [] w r1 w2 ∧ (∀ x3 : Int32, r1 = some (.int x3) → SK w2 → (r = some (.int x3) ∧ w' = w2))) else (PS X k 284 83 [.ref 147, .int i1, .int i2, .int i3, .int i4, .int i5, .int 0] [] w r w')) := by
  have h := sp_one (i := .iload 5) (by decide +kernel) rfl h
  have h := sp_onk (i := .aload_n 0) (by decide +kernel) rfl h
  have h := sp_getK (jj := 7) (ci := 12) (n := 0) (b := 148) (by decide +kernel) (by decide +kernel) (by decide +kernel) (by decide +kernel) (by decide) hS h
  have h := sp_onk (i := .iload_n 1) (by decide +kernel) rfl h
  obtain ⟨hi, h⟩ := sp_iald (by decide +kernel) h
  refine ⟨hi, ?_⟩
  rcases sp_icmp_ge (mi := 284) (pc := 77) (off := 149) (t := 226) (by decide +kernel) (by decide) rfl h with ⟨hc, h⟩ | ⟨hc, h⟩
  · refine ite_t hc ?_
    have h := sp_onk (i := .aload_n 0) (by decide +kernel) rfl h
    obtain ⟨r1, w2, hc, h⟩ := sp_callV (jj := 327) (mj := 278) (n := 0) (v := .ref 147) (args := []) (ls' := [.ref 147, pm_dead, pm_dead, pm_dead, pm_dead]) (by decide +kernel) (by decide +kernel) rfl rfl rfl h
    refine ⟨r1, w2, hc, fun x3 er hSw2 => ?_⟩
    subst er
    have h : PS X k 284 230 [.ref 147, .int i1, .int i2, .int i3, .int i4, .int i5, u6] [.int x3] w2 r w' := h
    exact sp_iret (by decide +kernel) h
  · refine ite_f hc ?_
    have h := sp_iconst (n := 0) (v := 0) (by decide +kernel) (by decide +kernel) h
    have h := sp_istore (j := 6) (ls' := [.ref 147, .int i1, .int i2, .int i3, .int i4, .int i5, .int 0]) (by decide +kernel) (Nat.le_of_ble_eq_true rfl) rfl h
    exact h
set_option maxRecDepth 20000 in
set_option maxHeartbeats 2000000 in
theorem U284_83 {X : pm_X} {k : Nat} {w w' : pm_W} {r : Option Value} {i1 : Int32} {i2 : Int32} {i3 : Int32} {i4 : Int32} {i5 : Int32} {i6 : Int32} (hS : SK w) (h : PS X (k + 1) 284 83 [.ref 147, .int i1, .int i2, .int i3, .int i4, .int i5, .int i6] [] w r w') : aI w 148 i1 ∧ (if (aG w 148 i1) ≤ i6 then (aI w 161 ((10 * i5) + 9) ∧ (∀ w1 : pm_W, w1 = aS w 161 ((10 * i5) + 9) i3 → (aI w1 161 (90 + i5) ∧ (∀ w2 : pm_W, w2 = aS w1 161 (90 + i5) i3 → (PS X k 284 69 [.ref 147, .int i1, .int i2, .int i3, .int i4, .int (i5 + 1), .int i6] [] w2 r w'))))) else (if i5 = i4 then (aI w 161 ((10 * i5) + i6) ∧ (∀ w3 : pm_W, w3 = aS w 161 ((10 * i5) + i6) 0 → (aI w3 160 ((10 * i5) + i6) ∧ (aI w3 161 ((10 * i5) + i6) ∧ (if (aG w3 160 ((10 * i5) + i6)) ≤ (aG w3 161 ((10 * i5) + i6)) then (PS X k 284 83 [.ref 147, .int i1, .int i2, .int i3, .int i4, .int i5, .int (i6 + 1)] [] w3 r w') else (r = some (.int 0) ∧ w' = w3)))))) else (if i6 = i4 then (aI w 161 ((10 * i5) + i6) ∧ (∀ w10 : pm_W, w10 = aS w 161 ((10 * i5) + i6) 0 → (aI w10 160 ((10 * i5) + i6) ∧ (aI w10 161 ((10 * i5) + i6) ∧ (if (aG w10 160 ((10 * i5) + i6)) ≤ (aG w10 161 ((10 * i5) + i6)) then (PS X k 284 83 [.ref 147, .int i1, .int i2, .int i3, .int i4, .int i5, .int (i6 + 1)] [] w10 r w') else (r = some (.int 0) ∧ w' = w10)))))) else (∃ (r4 : Option Value) (w5 : pm_W), PS X k 231 0 [.ref 147, .int i1, .int i5, .int i6, pm_dead] [] w r4 w5 ∧ (∀ x6 : Int32, r4 = some (.int x6) → SK w5 → (if i5 = (gI w5 147 31) then (if i6 = (gI w5 147 32) then (aI w5 161 ((10 * i5) + i6) ∧ (∀ w9 : pm_W, w9 = aS w5 161 ((10 * i5) + i6) (x6 + 1) → (aI w9 160 ((10 * i5) + i6) ∧ (aI w9 161 ((10 * i5) + i6) ∧ (if (aG w9 160 ((10 * i5) + i6)) ≤ (aG w9 161 ((10 * i5) + i6)) then (PS X k 284 83 [.ref 147, .int i1, .int i2, .int i3, .int i4, .int i5, .int (i6 + 1)] [] w9 r w') else (r = some (.int 0) ∧ w' = w9)))))) else (aI w5 161 ((10 * i5) + i6) ∧ (∀ w8 : pm_W, w8 = aS w5 161 ((10 * i5) + i6) (x6 + 0) → (aI w8 160 ((10 * i5) + i6) ∧ (aI w8 161 ((10 * i5) + i6) ∧ (if (aG w8 160 ((10 * i5) + i6)) ≤ (aG w8 161 ((10 * i5) + i6)) then (PS X k 284 83 [.ref 147, .int i1, .int i2, .int i3, .int i4, .int i5, .int (i6 + 1)] [] w8 r w') else (r = some (.int 0) ∧ w' = w8))))))) else (aI w5 161 ((10 * i5) + i6) ∧ (∀ w7 : pm_W, w7 = aS w5 161 ((10 * i5) + i6) (x6 + 0) → (aI w7 160 ((10 * i5) + i6) ∧ (aI w7 161 ((10 * i5) + i6) ∧ (if (aG w7 160 ((10 * i5) + i6)) ≤ (aG w7 161 ((10 * i5) + i6)) then (PS X k 284 83 [.ref 147, .int i1, .int i2, .int i3, .int i4, .int i5, .int (i6 + 1)] [] w7 r w') else (r = some (.int 0) ∧ w' = w7)))))))))))) := by
  have h := sp_one (i := .iload 6) (by decide +kernel) rfl h
  have h := sp_onk (i := .aload_n 0) (by decide +kernel) rfl h
  have h := sp_getK (jj := 7) (ci := 12) (n := 0) (b := 148) (by decide +kernel) (by decide +kernel) (by decide +kernel) (by decide +kernel) (by decide) hS h
  have h := sp_onk (i := .iload_n 1) (by decide +kernel) rfl h
  obtain ⟨hi, h⟩ := sp_iald (by decide +kernel) h
  refine ⟨hi, ?_⟩
  rcases sp_icmp_ge (mi := 284) (pc := 91) (off := 104) (t := 195) (by decide +kernel) (by decide) rfl h with ⟨hc, h⟩ | ⟨hc, h⟩
  · refine ite_t hc ?_
    have h := sp_onk (i := .aload_n 0) (by decide +kernel) rfl h
    have h := sp_getK (jj := 50) (ci := 12) (n := 26) (b := 161) (by decide +kernel) (by decide +kernel) (by decide +kernel) (by decide +kernel) (by decide) hS h
    have h := sp_bipush (n := 10) (v := 10) (by decide +kernel) (by decide +kernel) h
    have h := sp_onk (i := .iload 5) (by decide +kernel) rfl h
    have h := sp_onk (i := .imul) (by decide +kernel) rfl h
    have h := sp_bipush (n := 9) (v := 9) (by decide +kernel) (by decide +kernel) h
    have h := sp_onk (i := .iadd) (by decide +kernel) rfl h
    have h := sp_onk (i := .iload_n 3) (by decide +kernel) rfl h
    obtain ⟨hi, h⟩ := sp_iast (by decide +kernel) h
    refine ⟨hi, ?_⟩
    intro w1 ew1
    rw [← ew1] at h
    have hSw1 : SK w1 := by rw [ew1]; exact SK_aS hS
    have h := sp_onk (i := .aload_n 0) (by decide +kernel) rfl h
    have h := sp_getK (jj := 50) (ci := 12) (n := 26) (b := 161) (by decide +kernel) (by decide +kernel) (by decide +kernel) (by decide +kernel) (by decide) hSw1 h
    have h := sp_bipush (n := 90) (v := 90) (by decide +kernel) (by decide +kernel) h
    have h := sp_onk (i := .iload 5) (by decide +kernel) rfl h
    have h := sp_onk (i := .iadd) (by decide +kernel) rfl h
    have h := sp_onk (i := .iload_n 3) (by decide +kernel) rfl h
    obtain ⟨hi, h⟩ := sp_iast (by decide +kernel) h
    refine ⟨hi, ?_⟩
    intro w2 ew2
    rw [← ew2] at h
    have hSw2 : SK w2 := by rw [ew2]; exact SK_aS hSw1
    have h := sp_iinc (j := 5) (n := 1) (v := 1) (ls' := [.ref 147, .int i1, .int i2, .int i3, .int i4, .int (i5 + 1), .int i6]) (by decide +kernel) rfl (by decide +kernel) rfl h
    have h := sp_goto (mi := 284) (pc := 223) (off := (-154)) (t := 69) (by decide +kernel) (by decide) rfl h
    exact h
  · refine ite_f hc ?_
    have h := sp_onk (i := .aload_n 0) (by decide +kernel) rfl h
    have h := sp_getK (jj := 50) (ci := 12) (n := 26) (b := 161) (by decide +kernel) (by decide +kernel) (by decide +kernel) (by decide +kernel) (by decide) hS h
    have h := sp_bipush (n := 10) (v := 10) (by decide +kernel) (by decide +kernel) h
    have h := sp_onk (i := .iload 5) (by decide +kernel) rfl h
    have h := sp_onk (i := .imul) (by decide +kernel) rfl h
    have h := sp_onk (i := .iload 6) (by decide +kernel) rfl h
    have h := sp_onk (i := .iadd) (by decide +kernel) rfl h
    have h := sp_onk (i := .iload 5) (by decide +kernel) rfl h
    have h := sp_onk (i := .iload 4) (by decide +kernel) rfl h
    rcases sp_icmp_eq (mi := 284) (pc := 110) (off := 10) (t := 120) (by decide +kernel) (by decide) rfl h with ⟨hc, h⟩ | ⟨hc, h⟩
    · refine ite_t hc ?_
      have h := sp_iconst (n := 0) (v := 0) (by decide +kernel) (by decide +kernel) h
      have h := sp_goto (mi := 284) (pc := 121) (off := 36) (t := 157) (by decide +kernel) (by decide) rfl h
      obtain ⟨hi, h⟩ := sp_iast (by decide +kernel) h
      refine ⟨hi, ?_⟩
      intro w3 ew3
      rw [← ew3] at h
      have hSw3 : SK w3 := by rw [ew3]; exact SK_aS hS
      have h := sp_onk (i := .aload_n 0) (by decide +kernel) rfl h
      have h := sp_getK (jj := 47) (ci := 12) (n := 25) (b := 160) (by decide +kernel) (by decide +kernel) (by decide +kernel) (by decide +kernel) (by decide) hSw3 h
      have h := sp_bipush (n := 10) (v := 10) (by decide +kernel) (by decide +kernel) h
      have h := sp_onk (i := .iload 5) (by decide +kernel) rfl h
      have h := sp_onk (i := .imul) (by decide +kernel) rfl h
      have h := sp_onk (i := .iload 6) (by decide +kernel) rfl h
      have h := sp_onk (i := .iadd) (by decide +kernel) rfl h
      obtain ⟨hi, h⟩ := sp_iald (by decide +kernel) h
      refine ⟨hi, ?_⟩
      have h := sp_onk (i := .aload_n 0) (by decide +kernel) rfl h
      have h := sp_getK (jj := 50) (ci := 12) (n := 26) (b := 161) (by decide +kernel) (by decide +kernel) (by decide +kernel) (by decide +kernel) (by decide) hSw3 h
      have h := sp_bipush (n := 10) (v := 10) (by decide +kernel) (by decide +kernel) h
      have h := sp_onk (i := .iload 5) (by decide +kernel) rfl h
      have h := sp_onk (i := .imul) (by decide +kernel) rfl h
      have h := sp_onk (i := .iload 6) (by decide +kernel) rfl h
      have h := sp_onk (i := .iadd) (by decide +kernel) rfl h
      obtain ⟨hi, h⟩ := sp_iald (by decide +kernel) h
      refine ⟨hi, ?_⟩
      rcases sp_icmp_le (mi := 284) (pc := 184) (off := 5) (t := 189) (by decide +kernel) (by decide) rfl h with ⟨hc, h⟩ | ⟨hc, h⟩
      · refine ite_t hc ?_
        have h := sp_iinc (j := 6) (n := 1) (v := 1) (ls' := [.ref 147, .int i1, .int i2, .int i3, .int i4, .int i5, .int (i6 + 1)]) (by decide +kernel) rfl (by decide +kernel) rfl h
        have h := sp_goto (mi := 284) (pc := 192) (off := (-109)) (t := 83) (by decide +kernel) (by decide) rfl h
        exact h
      · refine ite_f hc ?_
        have h := sp_iconst (n := 0) (v := 0) (by decide +kernel) (by decide +kernel) h
        exact sp_iret (by decide +kernel) h
    · refine ite_f hc ?_
      have h := sp_onk (i := .iload 6) (by decide +kernel) rfl h
      have h := sp_onk (i := .iload 4) (by decide +kernel) rfl h
      rcases sp_icmp_ne (mi := 284) (pc := 117) (off := 7) (t := 124) (by decide +kernel) (by decide) rfl h with ⟨hc, h⟩ | ⟨hc, h⟩
      · refine ite_f hc ?_
        have h := sp_onk (i := .aload_n 0) (by decide +kernel) rfl h
        have h := sp_onk (i := .iload_n 1) (by decide +kernel) rfl h
        have h := sp_onk (i := .iload 5) (by decide +kernel) rfl h
        have h := sp_onk (i := .iload 6) (by decide +kernel) rfl h
        obtain ⟨r4, w5, hc, h⟩ := sp_callV (jj := 199) (mj := 231) (n := 3) (v := .ref 147) (args := [.int i6, .int i5, .int i1]) (ls' := [.ref 147, .int i1, .int i5, .int i6, pm_dead]) (by decide +kernel) (by decide +kernel) rfl rfl rfl h
        refine ⟨r4, w5, hc, fun x6 er hSw5 => ?_⟩
        subst er
        have h : PS X k 284 133 [.ref 147, .int i1, .int i2, .int i3, .int i4, .int i5, .int i6] [.int x6, .int ((10 * i5) + i6), .ref 161] w5 r w' := h
        have h := sp_onk (i := .iload 5) (by decide +kernel) rfl h
        have h := sp_onk (i := .aload_n 0) (by decide +kernel) rfl h
        have h := sp_getI (jj := 65) (ci := 12) (n := 31) (by decide +kernel) (by decide +kernel) (by decide +kernel) hSw5 h
        rcases sp_icmp_ne (mi := 284) (pc := 139) (off := 16) (t := 155) (by decide +kernel) (by decide) rfl h with ⟨hc, h⟩ | ⟨hc, h⟩
        · refine ite_f hc ?_
          have h := sp_iconst (n := 0) (v := 0) (by decide +kernel) (by decide +kernel) h
          have h := sp_onk (i := .iadd) (by decide +kernel) rfl h
          obtain ⟨hi, h⟩ := sp_iast (by decide +kernel) h
          refine ⟨hi, ?_⟩
          intro w7 ew7
          rw [← ew7] at h
          have hSw7 : SK w7 := by rw [ew7]; exact SK_aS hSw5
          have h := sp_onk (i := .aload_n 0) (by decide +kernel) rfl h
          have h := sp_getK (jj := 47) (ci := 12) (n := 25) (b := 160) (by decide +kernel) (by decide +kernel) (by decide +kernel) (by decide +kernel) (by decide) hSw7 h
          have h := sp_bipush (n := 10) (v := 10) (by decide +kernel) (by decide +kernel) h
          have h := sp_onk (i := .iload 5) (by decide +kernel) rfl h
          have h := sp_onk (i := .imul) (by decide +kernel) rfl h
          have h := sp_onk (i := .iload 6) (by decide +kernel) rfl h
          have h := sp_onk (i := .iadd) (by decide +kernel) rfl h
          obtain ⟨hi, h⟩ := sp_iald (by decide +kernel) h
          refine ⟨hi, ?_⟩
          have h := sp_onk (i := .aload_n 0) (by decide +kernel) rfl h
          have h := sp_getK (jj := 50) (ci := 12) (n := 26) (b := 161) (by decide +kernel) (by decide +kernel) (by decide +kernel) (by decide +kernel) (by decide) hSw7 h
          have h := sp_bipush (n := 10) (v := 10) (by decide +kernel) (by decide +kernel) h
          have h := sp_onk (i := .iload 5) (by decide +kernel) rfl h
          have h := sp_onk (i := .imul) (by decide +kernel) rfl h
          have h := sp_onk (i := .iload 6) (by decide +kernel) rfl h
          have h := sp_onk (i := .iadd) (by decide +kernel) rfl h
          obtain ⟨hi, h⟩ := sp_iald (by decide +kernel) h
          refine ⟨hi, ?_⟩
          rcases sp_icmp_le (mi := 284) (pc := 184) (off := 5) (t := 189) (by decide +kernel) (by decide) rfl h with ⟨hc, h⟩ | ⟨hc, h⟩
          · refine ite_t hc ?_
            have h := sp_iinc (j := 6) (n := 1) (v := 1) (ls' := [.ref 147, .int i1, .int i2, .int i3, .int i4, .int i5, .int (i6 + 1)]) (by decide +kernel) rfl (by decide +kernel) rfl h
            have h := sp_goto (mi := 284) (pc := 192) (off := (-109)) (t := 83) (by decide +kernel) (by decide) rfl h
            exact h
          · refine ite_f hc ?_
            have h := sp_iconst (n := 0) (v := 0) (by decide +kernel) (by decide +kernel) h
            exact sp_iret (by decide +kernel) h
        · refine ite_t (Classical.not_not.mp hc) ?_
          have h := sp_onk (i := .iload 6) (by decide +kernel) rfl h
          have h := sp_onk (i := .aload_n 0) (by decide +kernel) rfl h
          have h := sp_getI (jj := 69) (ci := 12) (n := 32) (by decide +kernel) (by decide +kernel) (by decide +kernel) hSw5 h
          rcases sp_icmp_ne (mi := 284) (pc := 148) (off := 7) (t := 155) (by decide +kernel) (by decide) rfl h with ⟨hc, h⟩ | ⟨hc, h⟩
          · refine ite_f hc ?_
            have h := sp_iconst (n := 0) (v := 0) (by decide +kernel) (by decide +kernel) h
            have h := sp_onk (i := .iadd) (by decide +kernel) rfl h
            obtain ⟨hi, h⟩ := sp_iast (by decide +kernel) h
            refine ⟨hi, ?_⟩
            intro w8 ew8
            rw [← ew8] at h
            have hSw8 : SK w8 := by rw [ew8]; exact SK_aS hSw5
            have h := sp_onk (i := .aload_n 0) (by decide +kernel) rfl h
            have h := sp_getK (jj := 47) (ci := 12) (n := 25) (b := 160) (by decide +kernel) (by decide +kernel) (by decide +kernel) (by decide +kernel) (by decide) hSw8 h
            have h := sp_bipush (n := 10) (v := 10) (by decide +kernel) (by decide +kernel) h
            have h := sp_onk (i := .iload 5) (by decide +kernel) rfl h
            have h := sp_onk (i := .imul) (by decide +kernel) rfl h
            have h := sp_onk (i := .iload 6) (by decide +kernel) rfl h
            have h := sp_onk (i := .iadd) (by decide +kernel) rfl h
            obtain ⟨hi, h⟩ := sp_iald (by decide +kernel) h
            refine ⟨hi, ?_⟩
            have h := sp_onk (i := .aload_n 0) (by decide +kernel) rfl h
            have h := sp_getK (jj := 50) (ci := 12) (n := 26) (b := 161) (by decide +kernel) (by decide +kernel) (by decide +kernel) (by decide +kernel) (by decide) hSw8 h
            have h := sp_bipush (n := 10) (v := 10) (by decide +kernel) (by decide +kernel) h
            have h := sp_onk (i := .iload 5) (by decide +kernel) rfl h
            have h := sp_onk (i := .imul) (by decide +kernel) rfl h
            have h := sp_onk (i := .iload 6) (by decide +kernel) rfl h
            have h := sp_onk (i := .iadd) (by decide +kernel) rfl h
            obtain ⟨hi, h⟩ := sp_iald (by decide +kernel) h
            refine ⟨hi, ?_⟩
            rcases sp_icmp_le (mi := 284) (pc := 184) (off := 5) (t := 189) (by decide +kernel) (by decide) rfl h with ⟨hc, h⟩ | ⟨hc, h⟩
            · refine ite_t hc ?_
              have h := sp_iinc (j := 6) (n := 1) (v := 1) (ls' := [.ref 147, .int i1, .int i2, .int i3, .int i4, .int i5, .int (i6 + 1)]) (by decide +kernel) rfl (by decide +kernel) rfl h
              have h := sp_goto (mi := 284) (pc := 192) (off := (-109)) (t := 83) (by decide +kernel) (by decide) rfl h
              exact h
            · refine ite_f hc ?_
              have h := sp_iconst (n := 0) (v := 0) (by decide +kernel) (by decide +kernel) h
              exact sp_iret (by decide +kernel) h
          · refine ite_t (Classical.not_not.mp hc) ?_
            have h := sp_iconst (n := 1) (v := 1) (by decide +kernel) (by decide +kernel) h
            have h := sp_goto (mi := 284) (pc := 152) (off := 4) (t := 156) (by decide +kernel) (by decide) rfl h
            have h := sp_onk (i := .iadd) (by decide +kernel) rfl h
            obtain ⟨hi, h⟩ := sp_iast (by decide +kernel) h
            refine ⟨hi, ?_⟩
            intro w9 ew9
            rw [← ew9] at h
            have hSw9 : SK w9 := by rw [ew9]; exact SK_aS hSw5
            have h := sp_onk (i := .aload_n 0) (by decide +kernel) rfl h
            have h := sp_getK (jj := 47) (ci := 12) (n := 25) (b := 160) (by decide +kernel) (by decide +kernel) (by decide +kernel) (by decide +kernel) (by decide) hSw9 h
            have h := sp_bipush (n := 10) (v := 10) (by decide +kernel) (by decide +kernel) h
            have h := sp_onk (i := .iload 5) (by decide +kernel) rfl h
            have h := sp_onk (i := .imul) (by decide +kernel) rfl h
            have h := sp_onk (i := .iload 6) (by decide +kernel) rfl h
            have h := sp_onk (i := .iadd) (by decide +kernel) rfl h
            obtain ⟨hi, h⟩ := sp_iald (by decide +kernel) h
            refine ⟨hi, ?_⟩
            have h := sp_onk (i := .aload_n 0) (by decide +kernel) rfl h
            have h := sp_getK (jj := 50) (ci := 12) (n := 26) (b := 161) (by decide +kernel) (by decide +kernel) (by decide +kernel) (by decide +kernel) (by decide) hSw9 h
            have h := sp_bipush (n := 10) (v := 10) (by decide +kernel) (by decide +kernel) h
            have h := sp_onk (i := .iload 5) (by decide +kernel) rfl h
            have h := sp_onk (i := .imul) (by decide +kernel) rfl h
            have h := sp_onk (i := .iload 6) (by decide +kernel) rfl h
            have h := sp_onk (i := .iadd) (by decide +kernel) rfl h
            obtain ⟨hi, h⟩ := sp_iald (by decide +kernel) h
            refine ⟨hi, ?_⟩
            rcases sp_icmp_le (mi := 284) (pc := 184) (off := 5) (t := 189) (by decide +kernel) (by decide) rfl h with ⟨hc, h⟩ | ⟨hc, h⟩
            · refine ite_t hc ?_
              have h := sp_iinc (j := 6) (n := 1) (v := 1) (ls' := [.ref 147, .int i1, .int i2, .int i3, .int i4, .int i5, .int (i6 + 1)]) (by decide +kernel) rfl (by decide +kernel) rfl h
              have h := sp_goto (mi := 284) (pc := 192) (off := (-109)) (t := 83) (by decide +kernel) (by decide) rfl h
              exact h
            · refine ite_f hc ?_
              have h := sp_iconst (n := 0) (v := 0) (by decide +kernel) (by decide +kernel) h
              exact sp_iret (by decide +kernel) h
      · refine ite_t (Classical.not_not.mp hc) ?_
        have h := sp_iconst (n := 0) (v := 0) (by decide +kernel) (by decide +kernel) h
        have h := sp_goto (mi := 284) (pc := 121) (off := 36) (t := 157) (by decide +kernel) (by decide) rfl h
        obtain ⟨hi, h⟩ := sp_iast (by decide +kernel) h
        refine ⟨hi, ?_⟩
        intro w10 ew10
        rw [← ew10] at h
        have hSw10 : SK w10 := by rw [ew10]; exact SK_aS hS
        have h := sp_onk (i := .aload_n 0) (by decide +kernel) rfl h
        have h := sp_getK (jj := 47) (ci := 12) (n := 25) (b := 160) (by decide +kernel) (by decide +kernel) (by decide +kernel) (by decide +kernel) (by decide) hSw10 h
        have h := sp_bipush (n := 10) (v := 10) (by decide +kernel) (by decide +kernel) h
        have h := sp_onk (i := .iload 5) (by decide +kernel) rfl h
        have h := sp_onk (i := .imul) (by decide +kernel) rfl h
        have h := sp_onk (i := .iload 6) (by decide +kernel) rfl h
        have h := sp_onk (i := .iadd) (by decide +kernel) rfl h
        obtain ⟨hi, h⟩ := sp_iald (by decide +kernel) h
        refine ⟨hi, ?_⟩
        have h := sp_onk (i := .aload_n 0) (by decide +kernel) rfl h
        have h := sp_getK (jj := 50) (ci := 12) (n := 26) (b := 161) (by decide +kernel) (by decide +kernel) (by decide +kernel) (by decide +kernel) (by decide) hSw10 h
        have h := sp_bipush (n := 10) (v := 10) (by decide +kernel) (by decide +kernel) h
        have h := sp_onk (i := .iload 5) (by decide +kernel) rfl h
        have h := sp_onk (i := .imul) (by decide +kernel) rfl h
        have h := sp_onk (i := .iload 6) (by decide +kernel) rfl h
        have h := sp_onk (i := .iadd) (by decide +kernel) rfl h
        obtain ⟨hi, h⟩ := sp_iald (by decide +kernel) h
        refine ⟨hi, ?_⟩
        rcases sp_icmp_le (mi := 284) (pc := 184) (off := 5) (t := 189) (by decide +kernel) (by decide) rfl h with ⟨hc, h⟩ | ⟨hc, h⟩
        · refine ite_t hc ?_
          have h := sp_iinc (j := 6) (n := 1) (v := 1) (ls' := [.ref 147, .int i1, .int i2, .int i3, .int i4, .int i5, .int (i6 + 1)]) (by decide +kernel) rfl (by decide +kernel) rfl h
          have h := sp_goto (mi := 284) (pc := 192) (off := (-109)) (t := 83) (by decide +kernel) (by decide) rfl h
          exact h
        · refine ite_f hc ?_
          have h := sp_iconst (n := 0) (v := 0) (by decide +kernel) (by decide +kernel) h
          exact sp_iret (by decide +kernel) h
set_option maxRecDepth 20000 in
set_option maxHeartbeats 2000000 in
theorem U285_0 {X : pm_X} {k : Nat} {w w' : pm_W} {r : Option Value} {p1 : Int32} {p2 : Int32} (hS : SK w) (h : PS X (k + 1) 285 0 [.ref 147, .int p1, .int p2, pm_dead, pm_dead, pm_dead] [] w r w') : ∃ (r1 : Option Value) (w2 : pm_W), PS X k 277 0 [.ref 147, pm_dead] [] w r1 w2 ∧ (r1 = none → SK w2 → (PS X k 285 6 [.ref 147, .int p1, .int p2, .int 0, pm_dead, pm_dead] [] w2 r w')) := by
  have h := sp_one (i := .aload_n 0) (by decide +kernel) rfl h
  obtain ⟨r1, w2, hc, h⟩ := sp_callV (jj := 324) (mj := 277) (n := 0) (v := .ref 147) (args := []) (ls' := [.ref 147, pm_dead]) (by decide +kernel) (by decide +kernel) rfl rfl rfl h
  refine ⟨r1, w2, hc, fun er hSw2 => ?_⟩
  subst er
  have h : PS X k 285 4 [.ref 147, .int p1, .int p2, pm_dead, pm_dead, pm_dead] [] w2 r w' := h
  have h := sp_iconst (n := 0) (v := 0) (by decide +kernel) (by decide +kernel) h
  have h := sp_istore_n (j := 3) (ls' := [.ref 147, .int p1, .int p2, .int 0, pm_dead, pm_dead]) (by decide +kernel) (Nat.le_of_ble_eq_true rfl) rfl h
  exact h
set_option maxRecDepth 20000 in
set_option maxHeartbeats 2000000 in
theorem U285_6 {X : pm_X} {k : Nat} {w w' : pm_W} {r : Option Value} {i1 : Int32} {i2 : Int32} {i3 : Int32} {u4 : Value} {u5 : Value} (hS : SK w) (h : PS X (k + 1) 285 6 [.ref 147, .int i1, .int i2, .int i3, u4, u5] [] w r w') : aI w 148 (i1 + 1) ∧ (if (aG w 148 (i1 + 1)) ≤ i3 then (r = none ∧ w' = w) else (if ((i2 >>> (i3 &&& 31)) &&& 1) = 0 then (PS X k 285 6 [.ref 147, .int i1, .int i2, .int (i3 + 1), u4, u5] [] w r w') else (∃ (r1 : Option Value) (w2 : pm_W), PS X k 224 0 [.ref 147, .int i1, .int i3, .int 0] [] w r1 w2 ∧ (∀ x3 : Int32, r1 = some (.int x3) → SK w2 → (∃ (r4 : Option Value) (w5 : pm_W), PS X k 224 0 [.ref 147, .int i1, .int i3, .int 1] [] w2 r4 w5 ∧ (∀ x6 : Int32, r4 = some (.int x6) → SK w5 → (aI w5 160 ((10 * x3) + x6) ∧ (∃ (r7 : Option Value) (w8 : pm_W), PS X k 224 0 [.ref 147, .int i1, .int i3, .int 2] [] w5 r7 w8 ∧ (∀ x9 : Int32, r7 = some (.int x9) → SK w8 → (aI w8 160 ((10 * x3) + x6) ∧ (∀ w10 : pm_W, w10 = aS w8 160 ((10 * x3) + x6) ((aG w5 160 ((10 * x3) + x6)) + x9) → (aI w10 163 x3 ∧ (∃ (r11 : Option Value) (w12 : pm_W), PS X k 224 0 [.ref 147, .int i1, .int i3, .int 2] [] w10 r11 w12 ∧ (∀ x13 : Int32, r11 = some (.int x13) → SK w12 → (aI w12 163 x3 ∧ (∀ w14 : pm_W, w14 = aS w12 163 x3 ((aG w10 163 x3) - x13) → (aI w14 163 x6 ∧ (∃ (r15 : Option Value) (w16 : pm_W), PS X k 224 0 [.ref 147, .int i1, .int i3, .int 2] [] w14 r15 w16 ∧ (∀ x17 : Int32, r15 = some (.int x17) → SK w16 → (aI w16 163 x6 ∧ (∀ w18 : pm_W, w18 = aS w16 163 x6 ((aG w14 163 x6) + x17) → (PS X k 285 6 [.ref 147, .int i1, .int i2, .int (i3 + 1), .int x3, .int x6] [] w18 r w')))))))))))))))))))))) := by
  have h := sp_one (i := .iload_n 3) (by decide +kernel) rfl h
  have h := sp_onk (i := .aload_n 0) (by decide +kernel) rfl h
  have h := sp_getK (jj := 7) (ci := 12) (n := 0) (b := 148) (by decide +kernel) (by decide +kernel) (by decide +kernel) (by decide +kernel) (by decide) hS h
  have h := sp_onk (i := .iload_n 1) (by decide +kernel) rfl h
  have h := sp_iconst (n := 1) (v := 1) (by decide +kernel) (by decide +kernel) h
  have h := sp_onk (i := .iadd) (by decide +kernel) rfl h
  obtain ⟨hi, h⟩ := sp_iald (by decide +kernel) h
  refine ⟨hi, ?_⟩
  rcases sp_icmp_ge (mi := 285) (pc := 15) (off := 95) (t := 110) (by decide +kernel) (by decide) rfl h with ⟨hc, h⟩ | ⟨hc, h⟩
  · refine ite_t hc ?_
    exact sp_vret (by decide +kernel) h
  · refine ite_f hc ?_
    have h := sp_onk (i := .iload_n 2) (by decide +kernel) rfl h
    have h := sp_onk (i := .iload_n 3) (by decide +kernel) rfl h
    have h := sp_onk (i := .ishr) (by decide +kernel) rfl h
    have h := sp_iconst (n := 1) (v := 1) (by decide +kernel) (by decide +kernel) h
    have h := sp_onk (i := .iand) (by decide +kernel) rfl h
    rcases sp_if_ne (mi := 285) (pc := 23) (off := 6) (t := 29) (by decide +kernel) (by decide) rfl h with ⟨hc, h⟩ | ⟨hc, h⟩
    · refine ite_f hc ?_
      have h := sp_onk (i := .aload_n 0) (by decide +kernel) rfl h
      have h := sp_onk (i := .iload_n 1) (by decide +kernel) rfl h
      have h := sp_onk (i := .iload_n 3) (by decide +kernel) rfl h
      have h := sp_iconst (n := 0) (v := 0) (by decide +kernel) (by decide +kernel) h
      obtain ⟨r1, w2, hc, h⟩ := sp_callV (jj := 172) (mj := 224) (n := 3) (v := .ref 147) (args := [.int 0, .int i3, .int i1]) (ls' := [.ref 147, .int i1, .int i3, .int 0]) (by decide +kernel) (by decide +kernel) rfl rfl rfl h
      refine ⟨r1, w2, hc, fun x3 er hSw2 => ?_⟩
      subst er
      have h : PS X k 285 36 [.ref 147, .int i1, .int i2, .int i3, u4, u5] [.int x3] w2 r w' := h
      have h := sp_istore (j := 4) (ls' := [.ref 147, .int i1, .int i2, .int i3, .int x3, u5]) (by decide +kernel) (Nat.le_of_ble_eq_true rfl) rfl h
      have h := sp_onk (i := .aload_n 0) (by decide +kernel) rfl h
      have h := sp_onk (i := .iload_n 1) (by decide +kernel) rfl h
      have h := sp_onk (i := .iload_n 3) (by decide +kernel) rfl h
      have h := sp_iconst (n := 1) (v := 1) (by decide +kernel) (by decide +kernel) h
      obtain ⟨r4, w5, hc, h⟩ := sp_callV (jj := 172) (mj := 224) (n := 3) (v := .ref 147) (args := [.int 1, .int i3, .int i1]) (ls' := [.ref 147, .int i1, .int i3, .int 1]) (by decide +kernel) (by decide +kernel) rfl rfl rfl h
      refine ⟨r4, w5, hc, fun x6 er hSw5 => ?_⟩
      subst er
      have h : PS X k 285 45 [.ref 147, .int i1, .int i2, .int i3, .int x3, u5] [.int x6] w5 r w' := h
      have h := sp_istore (j := 5) (ls' := [.ref 147, .int i1, .int i2, .int i3, .int x3, .int x6]) (by decide +kernel) (Nat.le_of_ble_eq_true rfl) rfl h
      have h := sp_onk (i := .aload_n 0) (by decide +kernel) rfl h
      have h := sp_getK (jj := 47) (ci := 12) (n := 25) (b := 160) (by decide +kernel) (by decide +kernel) (by decide +kernel) (by decide +kernel) (by decide) hSw5 h
      have h := sp_bipush (n := 10) (v := 10) (by decide +kernel) (by decide +kernel) h
      have h := sp_onk (i := .iload 4) (by decide +kernel) rfl h
      have h := sp_onk (i := .imul) (by decide +kernel) rfl h
      have h := sp_onk (i := .iload 5) (by decide +kernel) rfl h
      have h := sp_onk (i := .iadd) (by decide +kernel) rfl h
      have h := sp_onk (i := .dup2) (by decide +kernel) rfl h
      obtain ⟨hi, h⟩ := sp_iald (by decide +kernel) h
      refine ⟨hi, ?_⟩
      have h := sp_onk (i := .aload_n 0) (by decide +kernel) rfl h
      have h := sp_onk (i := .iload_n 1) (by decide +kernel) rfl h
      have h := sp_onk (i := .iload_n 3) (by decide +kernel) rfl h
      have h := sp_iconst (n := 2) (v := 2) (by decide +kernel) (by decide +kernel) h
      obtain ⟨r7, w8, hc, h⟩ := sp_callV (jj := 172) (mj := 224) (n := 3) (v := .ref 147) (args := [.int 2, .int i3, .int i1]) (ls' := [.ref 147, .int i1, .int i3, .int 2]) (by decide +kernel) (by decide +kernel) rfl rfl rfl h
      refine ⟨r7, w8, hc, fun x9 er hSw8 => ?_⟩
      subst er
      have h : PS X k 285 68 [.ref 147, .int i1, .int i2, .int i3, .int x3, .int x6] [.int x9, .int (aG w5 160 ((10 * x3) + x6)), .int ((10 * x3) + x6), .ref 160] w8 r w' := h
      have h := sp_onk (i := .iadd) (by decide +kernel) rfl h
      obtain ⟨hi, h⟩ := sp_iast (by decide +kernel) h
      refine ⟨hi, ?_⟩
      intro w10 ew10
      rw [← ew10] at h
      have hSw10 : SK w10 := by rw [ew10]; exact SK_aS hSw8
      have h := sp_onk (i := .aload_n 0) (by decide +kernel) rfl h
      have h := sp_getK (jj := 56) (ci := 12) (n := 28) (b := 163) (by decide +kernel) (by decide +kernel) (by decide +kernel) (by decide +kernel) (by decide) hSw10 h
      have h := sp_onk (i := .iload 4) (by decide +kernel) rfl h
      have h := sp_onk (i := .dup2) (by decide +kernel) rfl h
      obtain ⟨hi, h⟩ := sp_iald (by decide +kernel) h
      refine ⟨hi, ?_⟩
      have h := sp_onk (i := .aload_n 0) (by decide +kernel) rfl h
      have h := sp_onk (i := .iload_n 1) (by decide +kernel) rfl h
      have h := sp_onk (i := .iload_n 3) (by decide +kernel) rfl h
      have h := sp_iconst (n := 2) (v := 2) (by decide +kernel) (by decide +kernel) h
      obtain ⟨r11, w12, hc, h⟩ := sp_callV (jj := 172) (mj := 224) (n := 3) (v := .ref 147) (args := [.int 2, .int i3, .int i1]) (ls' := [.ref 147, .int i1, .int i3, .int 2]) (by decide +kernel) (by decide +kernel) rfl rfl rfl h
      refine ⟨r11, w12, hc, fun x13 er hSw12 => ?_⟩
      subst er
      have h : PS X k 285 85 [.ref 147, .int i1, .int i2, .int i3, .int x3, .int x6] [.int x13, .int (aG w10 163 x3), .int x3, .ref 163] w12 r w' := h
      have h := sp_onk (i := .isub) (by decide +kernel) rfl h
      obtain ⟨hi, h⟩ := sp_iast (by decide +kernel) h
      refine ⟨hi, ?_⟩
      intro w14 ew14
      rw [← ew14] at h
      have hSw14 : SK w14 := by rw [ew14]; exact SK_aS hSw12
      have h := sp_onk (i := .aload_n 0) (by decide +kernel) rfl h
      have h := sp_getK (jj := 56) (ci := 12) (n := 28) (b := 163) (by decide +kernel) (by decide +kernel) (by decide +kernel) (by decide +kernel) (by decide) hSw14 h
      have h := sp_onk (i := .iload 5) (by decide +kernel) rfl h
      have h := sp_onk (i := .dup2) (by decide +kernel) rfl h
      obtain ⟨hi, h⟩ := sp_iald (by decide +kernel) h
      refine ⟨hi, ?_⟩
      have h := sp_onk (i := .aload_n 0) (by decide +kernel) rfl h
      have h := sp_onk (i := .iload_n 1) (by decide +kernel) rfl h
      have h := sp_onk (i := .iload_n 3) (by decide +kernel) rfl h
      have h := sp_iconst (n := 2) (v := 2) (by decide +kernel) (by decide +kernel) h
      obtain ⟨r15, w16, hc, h⟩ := sp_callV (jj := 172) (mj := 224) (n := 3) (v := .ref 147) (args := [.int 2, .int i3, .int i1]) (ls' := [.ref 147, .int i1, .int i3, .int 2]) (by decide +kernel) (by decide +kernel) rfl rfl rfl h
      refine ⟨r15, w16, hc, fun x17 er hSw16 => ?_⟩
      subst er
      have h : PS X k 285 102 [.ref 147, .int i1, .int i2, .int i3, .int x3, .int x6] [.int x17, .int (aG w14 163 x6), .int x6, .ref 163] w16 r w' := h
      have h := sp_onk (i := .iadd) (by decide +kernel) rfl h
      obtain ⟨hi, h⟩ := sp_iast (by decide +kernel) h
      refine ⟨hi, ?_⟩
      intro w18 ew18
      rw [← ew18] at h
      have hSw18 : SK w18 := by rw [ew18]; exact SK_aS hSw16
      have h := sp_iinc (j := 3) (n := 1) (v := 1) (ls' := [.ref 147, .int i1, .int i2, .int (i3 + 1), .int x3, .int x6]) (by decide +kernel) rfl (by decide +kernel) rfl h
      have h := sp_goto (mi := 285) (pc := 107) (off := (-101)) (t := 6) (by decide +kernel) (by decide) rfl h
      exact h
    · refine ite_t (Classical.not_not.mp hc) ?_
      have h := sp_goto (mi := 285) (pc := 26) (off := 78) (t := 104) (by decide +kernel) (by decide) rfl h
      have h := sp_iinc (j := 3) (n := 1) (v := 1) (ls' := [.ref 147, .int i1, .int i2, .int (i3 + 1), u4, u5]) (by decide +kernel) rfl (by decide +kernel) rfl h
      have h := sp_goto (mi := 285) (pc := 107) (off := (-101)) (t := 6) (by decide +kernel) (by decide) rfl h
      exact h
set_option maxRecDepth 20000 in
set_option maxHeartbeats 2000000 in
theorem U287_0 {X : pm_X} {k : Nat} {w w' : pm_W} {r : Option Value} {p1 : Int32} {p2 : Int32} {p3 : Int32} (hS : SK w) (h : PS X (k + 1) 287 0 [.ref 147, .int p1, .int p2, .int p3, pm_dead, pm_dead, pm_dead] [] w r w') : PS X k 287 6 [.ref 147, .int p1, .int p2, .int p3, .int 0, .int 1, pm_dead] [] w r w' := by
  have h := sp_iconst1 (n := 0) (v := 0) (by decide +kernel) (by decide +kernel) h
  have h := sp_istore (j := 4) (ls' := [.ref 147, .int p1, .int p2, .int p3, .int 0, pm_dead, pm_dead]) (by decide +kernel) (Nat.le_of_ble_eq_true rfl) rfl h
  have h := sp_iconst (n := 1) (v := 1) (by decide +kernel) (by decide +kernel) h
  have h := sp_istore (j := 5) (ls' := [.ref 147, .int p1, .int p2, .int p3, .int 0, .int 1, pm_dead]) (by decide +kernel) (Nat.le_of_ble_eq_true rfl) rfl h
  exact h
set_option maxRecDepth 20000 in
set_option maxHeartbeats 2000000 in
theorem U287_6 {X : pm_X} {k : Nat} {w w' : pm_W} {r : Option Value} {i1 : Int32} {i2 : Int32} {i3 : Int32} {i4 : Int32} {i5 : Int32} {u6 : Value} (hS : SK w) (h : PS X (k + 1) 287 6 [.ref 147, .int i1, .int i2, .int i3, .int i4, .int i5, u6] [] w r w') : aI w 148 (i1 + 1) ∧ (if (1 <<< (aG w 148 (i1 + 1) &&& 31)) ≤ i5 then (r = some (.int i4) ∧ w' = w) else (∃ (r1 : Option Value) (w2 : pm_W), PS X k 288 0 [.ref 147, .int i1, .int i5, pm_dead, pm_dead] [] w r1 w2 ∧ (∀ x3 : Int32, r1 = some (.int x3) → SK w2 → (∃ (r4 : Option Value) (w5 : pm_W), PS X k 288 0 [.ref 147, .int i1, .int i4, pm_dead, pm_dead] [] w2 r4 w5 ∧ (∀ x6 : Int32, r4 = some (.int x6) → SK w5 → (if 0 < (x3 - x6) then (∃ (r7 : Option Value) (w8 : pm_W), PS X k 284 0 [.ref 147, .int i1, .int i5, .int i2, .int i3, pm_dead, pm_dead] [] w5 r7 w8 ∧ (∀ x9 : Int32, r7 = some (.int x9) → SK w8 → (if x9 = 0 then (PS X k 287 6 [.ref 147, .int i1, .int i2, .int i3, .int i4, .int (i5 + 1), .int (x3 - x6)] [] w8 r w') else (PS X k 287 6 [.ref 147, .int i1, .int i2, .int i3, .int i5, .int (i5 + 1), .int (x3 - x6)] [] w8 r w')))) else (if (x3 - x6) = 0 then (∃ (r10 : Option Value) (w11 : pm_W), PS X k 289 0 [.int i5, pm_dead, pm_dead] [] w5 r10 w11 ∧ (∀ x12 : Int32, r10 = some (.int x12) → SK w11 → (∃ (r13 : Option Value) (w14 : pm_W), PS X k 289 0 [.int i4, pm_dead, pm_dead] [] w11 r13 w14 ∧ (∀ x15 : Int32, r13 = some (.int x15) → SK w14 → (if x15 ≤ x12 then (PS X k 287 6 [.ref 147, .int i1, .int i2, .int i3, .int i4, .int (i5 + 1), .int (x3 - x6)] [] w14 r w') else (∃ (r16 : Option Value) (w17 : pm_W), PS X k 284 0 [.ref 147, .int i1, .int i5, .int i2, .int i3, pm_dead, pm_dead] [] w14 r16 w17 ∧ (∀ x18 : Int32, r16 = some (.int x18) → SK w17 → (if x18 = 0 then (PS X k 287 6 [.ref 147, .int i1, .int i2, .int i3, .int i4, .int (i5 + 1), .int (x3 - x6)] [] w17 r w') else (PS X k 287 6 [.ref 147, .int i1, .int i2, .int i3, .int i5, .int (i5 + 1), .int (x3 - x6)] [] w17 r w'))))))))) else (PS X k 287 6 [.ref 147, .int i1, .int i2, .int i3, .int i4, .int (i5 + 1), .int (x3 - x6)] [] w5 r w')))))))) := by
  have h := sp_one (i := .iload 5) (by decide +kernel) rfl h
  have h := sp_iconst (n := 1) (v := 1) (by decide +kernel) (by decide +kernel) h
  have h := sp_onk (i := .aload_n 0) (by decide +kernel) rfl h
  have h := sp_getK (jj := 7) (ci := 12) (n := 0) (b := 148) (by decide +kernel) (by decide +kernel) (by decide +kernel) (by decide +kernel) (by decide) hS h
  have h := sp_onk (i := .iload_n 1) (by decide +kernel) rfl h
  have h := sp_iconst (n := 1) (v := 1) (by decide +kernel) (by decide +kernel) h
  have h := sp_onk (i := .iadd) (by decide +kernel) rfl h
  obtain ⟨hi, h⟩ := sp_iald (by decide +kernel) h
  refine ⟨hi, ?_⟩
  have h := sp_onk (i := .ishl) (by decide +kernel) rfl h
  rcases sp_icmp_ge (mi := 287) (pc := 18) (off := 65) (t := 83) (by decide +kernel) (by decide) rfl h with ⟨hc, h⟩ | ⟨hc, h⟩
  · refine ite_t hc ?_
    have h := sp_onk (i := .iload 4) (by decide +kernel) rfl h
    exact sp_iret (by decide +kernel) h
  · refine ite_f hc ?_
    have h := sp_onk (i := .aload_n 0) (by decide +kernel) rfl h
    have h := sp_onk (i := .iload_n 1) (by decide +kernel) rfl h
    have h := sp_onk (i := .iload 5) (by decide +kernel) rfl h
    obtain ⟨r1, w2, hc, h⟩ := sp_callV (jj := 340) (mj := 288) (n := 2) (v := .ref 147) (args := [.int i5, .int i1]) (ls' := [.ref 147, .int i1, .int i5, pm_dead, pm_dead]) (by decide +kernel) (by decide +kernel) rfl rfl rfl h
    refine ⟨r1, w2, hc, fun x3 er hSw2 => ?_⟩
    subst er
    have h : PS X k 287 28 [.ref 147, .int i1, .int i2, .int i3, .int i4, .int i5, u6] [.int x3] w2 r w' := h
    have h := sp_onk (i := .aload_n 0) (by decide +kernel) rfl h
    have h := sp_onk (i := .iload_n 1) (by decide +kernel) rfl h
    have h := sp_onk (i := .iload 4) (by decide +kernel) rfl h
    obtain ⟨r4, w5, hc, h⟩ := sp_callV (jj := 340) (mj := 288) (n := 2) (v := .ref 147) (args := [.int i4, .int i1]) (ls' := [.ref 147, .int i1, .int i4, pm_dead, pm_dead]) (by decide +kernel) (by decide +kernel) rfl rfl rfl h
    refine ⟨r4, w5, hc, fun x6 er hSw5 => ?_⟩
    subst er
    have h : PS X k 287 35 [.ref 147, .int i1, .int i2, .int i3, .int i4, .int i5, u6] [.int x6, .int x3] w5 r w' := h
    have h := sp_onk (i := .isub) (by decide +kernel) rfl h
    have h := sp_istore (j := 6) (ls' := [.ref 147, .int i1, .int i2, .int i3, .int i4, .int i5, .int (x3 - x6)]) (by decide +kernel) (Nat.le_of_ble_eq_true rfl) rfl h
    have h := sp_onk (i := .iload 6) (by decide +kernel) rfl h
    rcases sp_if_gt (mi := 287) (pc := 40) (off := 21) (t := 61) (by decide +kernel) (by decide) rfl h with ⟨hc, h⟩ | ⟨hc, h⟩
    · refine ite_t hc ?_
      have h := sp_onk (i := .aload_n 0) (by decide +kernel) rfl h
      have h := sp_onk (i := .iload_n 1) (by decide +kernel) rfl h
      have h := sp_onk (i := .iload 5) (by decide +kernel) rfl h
      have h := sp_onk (i := .iload_n 2) (by decide +kernel) rfl h
      have h := sp_onk (i := .iload_n 3) (by decide +kernel) rfl h
      obtain ⟨r7, w8, hc, h⟩ := sp_callV (jj := 337) (mj := 284) (n := 4) (v := .ref 147) (args := [.int i3, .int i2, .int i5, .int i1]) (ls' := [.ref 147, .int i1, .int i5, .int i2, .int i3, pm_dead, pm_dead]) (by decide +kernel) (by decide +kernel) rfl rfl rfl h
      refine ⟨r7, w8, hc, fun x9 er hSw8 => ?_⟩
      subst er
      have h : PS X k 287 70 [.ref 147, .int i1, .int i2, .int i3, .int i4, .int i5, .int (x3 - x6)] [.int x9] w8 r w' := h
      rcases sp_if_eq (mi := 287) (pc := 70) (off := 7) (t := 77) (by decide +kernel) (by decide) rfl h with ⟨hc, h⟩ | ⟨hc, h⟩
      · refine ite_t hc ?_
        have h := sp_iinc (j := 5) (n := 1) (v := 1) (ls' := [.ref 147, .int i1, .int i2, .int i3, .int i4, .int (i5 + 1), .int (x3 - x6)]) (by decide +kernel) rfl (by decide +kernel) rfl h
        have h := sp_goto (mi := 287) (pc := 80) (off := (-74)) (t := 6) (by decide +kernel) (by decide) rfl h
        exact h
      · refine ite_f hc ?_
        have h := sp_onk (i := .iload 5) (by decide +kernel) rfl h
        have h := sp_istore (j := 4) (ls' := [.ref 147, .int i1, .int i2, .int i3, .int i5, .int i5, .int (x3 - x6)]) (by decide +kernel) (Nat.le_of_ble_eq_true rfl) rfl h
        have h := sp_iinc (j := 5) (n := 1) (v := 1) (ls' := [.ref 147, .int i1, .int i2, .int i3, .int i5, .int (i5 + 1), .int (x3 - x6)]) (by decide +kernel) rfl (by decide +kernel) rfl h
        have h := sp_goto (mi := 287) (pc := 80) (off := (-74)) (t := 6) (by decide +kernel) (by decide) rfl h
        exact h
    · refine ite_f hc ?_
      have h := sp_onk (i := .iload 6) (by decide +kernel) rfl h
      rcases sp_if_ne (mi := 287) (pc := 45) (off := 32) (t := 77) (by decide +kernel) (by decide) rfl h with ⟨hc, h⟩ | ⟨hc, h⟩
      · refine ite_f hc ?_
        have h := sp_iinc (j := 5) (n := 1) (v := 1) (ls' := [.ref 147, .int i1, .int i2, .int i3, .int i4, .int (i5 + 1), .int (x3 - x6)]) (by decide +kernel) rfl (by decide +kernel) rfl h
        have h := sp_goto (mi := 287) (pc := 80) (off := (-74)) (t := 6) (by decide +kernel) (by decide) rfl h
        exact h
      · refine ite_t (Classical.not_not.mp hc) ?_
        have h := sp_onk (i := .iload 5) (by decide +kernel) rfl h
        obtain ⟨r10, w11, hc, h⟩ := sp_callS (jj := 343) (mj := 289) (n := 1) (args := [.int i5]) (ls' := [.int i5, pm_dead, pm_dead]) (by decide +kernel) (by decide +kernel) (by decide +kernel) rfl rfl rfl h
        refine ⟨r10, w11, hc, fun x12 er hSw11 => ?_⟩
        subst er
        have h : PS X k 287 53 [.ref 147, .int i1, .int i2, .int i3, .int i4, .int i5, .int (x3 - x6)] [.int x12] w11 r w' := h
        have h := sp_onk (i := .iload 4) (by decide +kernel) rfl h
        obtain ⟨r13, w14, hc, h⟩ := sp_callS (jj := 343) (mj := 289) (n := 1) (args := [.int i4]) (ls' := [.int i4, pm_dead, pm_dead]) (by decide +kernel) (by decide +kernel) (by decide +kernel) rfl rfl rfl h
        refine ⟨r13, w14, hc, fun x15 er hSw14 => ?_⟩
        subst er
        have h : PS X k 287 58 [.ref 147, .int i1, .int i2, .int i3, .int i4, .int i5, .int (x3 - x6)] [.int x15, .int x12] w14 r w' := h
        rcases sp_icmp_ge (mi := 287) (pc := 58) (off := 19) (t := 77) (by decide +kernel) (by decide) rfl h with ⟨hc, h⟩ | ⟨hc, h⟩
        · refine ite_t hc ?_
          have h := sp_iinc (j := 5) (n := 1) (v := 1) (ls' := [.ref 147, .int i1, .int i2, .int i3, .int i4, .int (i5 + 1), .int (x3 - x6)]) (by decide +kernel) rfl (by decide +kernel) rfl h
          have h := sp_goto (mi := 287) (pc := 80) (off := (-74)) (t := 6) (by decide +kernel) (by decide) rfl h
          exact h
        · refine ite_f hc ?_
          have h := sp_onk (i := .aload_n 0) (by decide +kernel) rfl h
          have h := sp_onk (i := .iload_n 1) (by decide +kernel) rfl h
          have h := sp_onk (i := .iload 5) (by decide +kernel) rfl h
          have h := sp_onk (i := .iload_n 2) (by decide +kernel) rfl h
          have h := sp_onk (i := .iload_n 3) (by decide +kernel) rfl h
          obtain ⟨r16, w17, hc, h⟩ := sp_callV (jj := 337) (mj := 284) (n := 4) (v := .ref 147) (args := [.int i3, .int i2, .int i5, .int i1]) (ls' := [.ref 147, .int i1, .int i5, .int i2, .int i3, pm_dead, pm_dead]) (by decide +kernel) (by decide +kernel) rfl rfl rfl h
          refine ⟨r16, w17, hc, fun x18 er hSw17 => ?_⟩
          subst er
          have h : PS X k 287 70 [.ref 147, .int i1, .int i2, .int i3, .int i4, .int i5, .int (x3 - x6)] [.int x18] w17 r w' := h
          rcases sp_if_eq (mi := 287) (pc := 70) (off := 7) (t := 77) (by decide +kernel) (by decide) rfl h with ⟨hc, h⟩ | ⟨hc, h⟩
          · refine ite_t hc ?_
            have h := sp_iinc (j := 5) (n := 1) (v := 1) (ls' := [.ref 147, .int i1, .int i2, .int i3, .int i4, .int (i5 + 1), .int (x3 - x6)]) (by decide +kernel) rfl (by decide +kernel) rfl h
            have h := sp_goto (mi := 287) (pc := 80) (off := (-74)) (t := 6) (by decide +kernel) (by decide) rfl h
            exact h
          · refine ite_f hc ?_
            have h := sp_onk (i := .iload 5) (by decide +kernel) rfl h
            have h := sp_istore (j := 4) (ls' := [.ref 147, .int i1, .int i2, .int i3, .int i5, .int i5, .int (x3 - x6)]) (by decide +kernel) (Nat.le_of_ble_eq_true rfl) rfl h
            have h := sp_iinc (j := 5) (n := 1) (v := 1) (ls' := [.ref 147, .int i1, .int i2, .int i3, .int i5, .int (i5 + 1), .int (x3 - x6)]) (by decide +kernel) rfl (by decide +kernel) rfl h
            have h := sp_goto (mi := 287) (pc := 80) (off := (-74)) (t := 6) (by decide +kernel) (by decide) rfl h
            exact h
set_option maxRecDepth 20000 in
set_option maxHeartbeats 2000000 in
theorem U288_0 {X : pm_X} {k : Nat} {w w' : pm_W} {r : Option Value} {p1 : Int32} {p2 : Int32} (hS : SK w) (h : PS X (k + 1) 288 0 [.ref 147, .int p1, .int p2, pm_dead, pm_dead] [] w r w') : PS X k 288 5 [.ref 147, .int p1, .int p2, .int 0, .int 0] [] w r w' := by
  have h := sp_iconst1 (n := 0) (v := 0) (by decide +kernel) (by decide +kernel) h
  have h := sp_istore_n (j := 3) (ls' := [.ref 147, .int p1, .int p2, .int 0, pm_dead]) (by decide +kernel) (Nat.le_of_ble_eq_true rfl) rfl h
  have h := sp_iconst (n := 0) (v := 0) (by decide +kernel) (by decide +kernel) h
  have h := sp_istore (j := 4) (ls' := [.ref 147, .int p1, .int p2, .int 0, .int 0]) (by decide +kernel) (Nat.le_of_ble_eq_true rfl) rfl h
  exact h
set_option maxRecDepth 20000 in
set_option maxHeartbeats 2000000 in
theorem U288_5 {X : pm_X} {k : Nat} {w w' : pm_W} {r : Option Value} {i1 : Int32} {i2 : Int32} {i3 : Int32} {i4 : Int32} (hS : SK w) (h : PS X (k + 1) 288 5 [.ref 147, .int i1, .int i2, .int i3, .int i4] [] w r w') : aI w 148 (i1 + 1) ∧ (if (aG w 148 (i1 + 1)) ≤ i4 then (r = some (.int i3) ∧ w' = w) else (∃ (r1 : Option Value) (w2 : pm_W), PS X k 224 0 [.ref 147, .int i1, .int i4, .int 3] [] w r1 w2 ∧ (∀ x3 : Int32, r1 = some (.int x3) → SK w2 → (PS X k 288 5 [.ref 147, .int i1, .int i2, .int (i3 + (((i2 >>> (i4 &&& 31)) &&& 1) * x3)), .int (i4 + 1)] [] w2 r w')))) := by
  have h := sp_one (i := .iload 4) (by decide +kernel) rfl h
  have h := sp_onk (i := .aload_n 0) (by decide +kernel) rfl h
  have h := sp_getK (jj := 7) (ci := 12) (n := 0) (b := 148) (by decide +kernel) (by decide +kernel) (by decide +kernel) (by decide +kernel) (by decide) hS h
  have h := sp_onk (i := .iload_n 1) (by decide +kernel) rfl h
  have h := sp_iconst (n := 1) (v := 1) (by decide +kernel) (by decide +kernel) h
  have h := sp_onk (i := .iadd) (by decide +kernel) rfl h
  obtain ⟨hi, h⟩ := sp_iald (by decide +kernel) h
  refine ⟨hi, ?_⟩
  rcases sp_icmp_ge (mi := 288) (pc := 15) (off := 27) (t := 42) (by decide +kernel) (by decide) rfl h with ⟨hc, h⟩ | ⟨hc, h⟩
  · refine ite_t hc ?_
    have h := sp_onk (i := .iload_n 3) (by decide +kernel) rfl h
    exact sp_iret (by decide +kernel) h
  · refine ite_f hc ?_
    have h := sp_onk (i := .iload_n 3) (by decide +kernel) rfl h
    have h := sp_onk (i := .iload_n 2) (by decide +kernel) rfl h
    have h := sp_onk (i := .iload 4) (by decide +kernel) rfl h
    have h := sp_onk (i := .ishr) (by decide +kernel) rfl h
    have h := sp_iconst (n := 1) (v := 1) (by decide +kernel) (by decide +kernel) h
    have h := sp_onk (i := .iand) (by decide +kernel) rfl h
    have h := sp_onk (i := .aload_n 0) (by decide +kernel) rfl h
    have h := sp_onk (i := .iload_n 1) (by decide +kernel) rfl h
    have h := sp_onk (i := .iload 4) (by decide +kernel) rfl h
    have h := sp_iconst (n := 3) (v := 3) (by decide +kernel) (by decide +kernel) h
    obtain ⟨r1, w2, hc, h⟩ := sp_callV (jj := 172) (mj := 224) (n := 3) (v := .ref 147) (args := [.int 3, .int i4, .int i1]) (ls' := [.ref 147, .int i1, .int i4, .int 3]) (by decide +kernel) (by decide +kernel) rfl rfl rfl h
    refine ⟨r1, w2, hc, fun x3 er hSw2 => ?_⟩
    subst er
    have h : PS X k 288 33 [.ref 147, .int i1, .int i2, .int i3, .int i4] [.int x3, .int ((i2 >>> (i4 &&& 31)) &&& 1), .int i3] w2 r w' := h
    have h := sp_onk (i := .imul) (by decide +kernel) rfl h
    have h := sp_onk (i := .iadd) (by decide +kernel) rfl h
    have h := sp_istore_n (j := 3) (ls' := [.ref 147, .int i1, .int i2, .int (i3 + (((i2 >>> (i4 &&& 31)) &&& 1) * x3)), .int i4]) (by decide +kernel) (Nat.le_of_ble_eq_true rfl) rfl h
    have h := sp_iinc (j := 4) (n := 1) (v := 1) (ls' := [.ref 147, .int i1, .int i2, .int (i3 + (((i2 >>> (i4 &&& 31)) &&& 1) * x3)), .int (i4 + 1)]) (by decide +kernel) rfl (by decide +kernel) rfl h
    have h := sp_goto (mi := 288) (pc := 39) (off := (-34)) (t := 5) (by decide +kernel) (by decide) rfl h
    exact h
set_option maxRecDepth 20000 in
set_option maxHeartbeats 2000000 in
theorem U289_0 {X : pm_X} {k : Nat} {w w' : pm_W} {r : Option Value} {p1 : Int32} (hS : SK w) (h : PS X (k + 1) 289 0 [.int p1, pm_dead, pm_dead] [] w r w') : PS X k 289 4 [.int p1, .int 0, .int p1] [] w r w' := by
  have h := sp_iconst1 (n := 0) (v := 0) (by decide +kernel) (by decide +kernel) h
  have h := sp_istore_n (j := 1) (ls' := [.int p1, .int 0, pm_dead]) (by decide +kernel) (Nat.le_of_ble_eq_true rfl) rfl h
  have h := sp_onk (i := .iload_n 0) (by decide +kernel) rfl h
  have h := sp_istore_n (j := 2) (ls' := [.int p1, .int 0, .int p1]) (by decide +kernel) (Nat.le_of_ble_eq_true rfl) rfl h
  exact h
set_option maxRecDepth 20000 in
set_option maxHeartbeats 2000000 in
theorem U289_4 {X : pm_X} {k : Nat} {w w' : pm_W} {r : Option Value} {i0 : Int32} {i1 : Int32} {i2 : Int32} (hS : SK w) (h : PS X (k + 1) 289 4 [.int i0, .int i1, .int i2] [] w r w') : if i2 ≤ 0 then (r = some (.int i1) ∧ w' = w) else (PS X k 289 4 [.int i0, .int (i1 + (i2 &&& 1)), .int (i2 >>> (1 &&& 31))] [] w r w') := by
  have h := sp_one (i := .iload_n 2) (by decide +kernel) rfl h
  rcases sp_if_le (mi := 289) (pc := 5) (off := 16) (t := 21) (by decide +kernel) (by decide) rfl h with ⟨hc, h⟩ | ⟨hc, h⟩
  · refine ite_t hc ?_
    have h := sp_onk (i := .iload_n 1) (by decide +kernel) rfl h
    exact sp_iret (by decide +kernel) h
  · refine ite_f hc ?_
    have h := sp_onk (i := .iload_n 1) (by decide +kernel) rfl h
    have h := sp_onk (i := .iload_n 2) (by decide +kernel) rfl h
    have h := sp_iconst (n := 1) (v := 1) (by decide +kernel) (by decide +kernel) h
    have h := sp_onk (i := .iand) (by decide +kernel) rfl h
    have h := sp_onk (i := .iadd) (by decide +kernel) rfl h
    have h := sp_istore_n (j := 1) (ls' := [.int i0, .int (i1 + (i2 &&& 1)), .int i2]) (by decide +kernel) (Nat.le_of_ble_eq_true rfl) rfl h
    have h := sp_onk (i := .iload_n 2) (by decide +kernel) rfl h
    have h := sp_iconst (n := 1) (v := 1) (by decide +kernel) (by decide +kernel) h
    have h := sp_onk (i := .ishr) (by decide +kernel) rfl h
    have h := sp_istore_n (j := 2) (ls' := [.int i0, .int (i1 + (i2 &&& 1)), .int (i2 >>> (1 &&& 31))]) (by decide +kernel) (Nat.le_of_ble_eq_true rfl) rfl h
    have h := sp_goto (mi := 289) (pc := 18) (off := (-14)) (t := 4) (by decide +kernel) (by decide) rfl h
    exact h