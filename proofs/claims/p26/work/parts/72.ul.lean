/-! ===== what pieces of methods leave (printed by us.py) ===== -/
set_option maxRecDepth 20000 in
set_option maxHeartbeats 2000000 in
theorem U293_0 {X : pm_X} {k : Nat} {w w' : pm_W} {r : Option Value} {p1 : Int32} {p2 : Int32} {p3 : Int32} {p4 : Int32} (hS : SK w) (h : PS X (k + 1) 293 0 [.ref 147, .int p1, .int p2, .int p3, .int p4, pm_dead, pm_dead, pm_dead] [] w r w') : ∃ (r1 : Option Value) (w2 : pm_W), PS X k 246 0 [.ref 147, .int p1, .int p2, .int p3] [] w r1 w2 ∧ (∀ x3 : Int32, r1 = some (.int x3) → SK w2 → (if x3 = 0 then (r = some (.int (-1)) ∧ w' = w2) else (∃ (r4 : Option Value) (w5 : pm_W), PS X k 217 0 [.int 0, .int p1] [] w2 r4 w5 ∧ (∀ x6 : Int32, r4 = some (.int x6) → SK w5 → (∃ (r7 : Option Value) (w8 : pm_W), PS X k 283 0 [.ref 147, .int x6, .int p4] [] w5 r7 w8 ∧ (∀ x9 : Int32, r7 = some (.int x9) → SK w8 → (if x9 = 0 then (r = some (.int (-1)) ∧ w' = w8) else (∃ (r10 : Option Value) (w11 : pm_W), PS X k 217 0 [.int 0, .int p1] [] w8 r10 w11 ∧ (∀ x12 : Int32, r10 = some (.int x12) → SK w11 → (∃ (r13 : Option Value) (w14 : pm_W), PS X k 285 0 [.ref 147, .int x12, .int p4, pm_dead, pm_dead, pm_dead] [] w11 r13 w14 ∧ (r13 = none → SK w14 → (PS X k 293 44 [.ref 147, .int p1, .int p2, .int p3, .int p4, .int x12, .int 0, pm_dead] [] w14 r w')))))))))))) := by
  have h := sp_one (i := .aload_n 0) (by decide +kernel) rfl h
  have h := sp_onk (i := .iload_n 1) (by decide +kernel) rfl h
  have h := sp_onk (i := .iload_n 2) (by decide +kernel) rfl h
  have h := sp_onk (i := .iload_n 3) (by decide +kernel) rfl h
  obtain ⟨r1, w2, hc, h⟩ := sp_callV (jj := 232) (mj := 246) (n := 3) (v := .ref 147) (args := [.int p3, .int p2, .int p1]) (ls' := [.ref 147, .int p1, .int p2, .int p3]) (by decide +kernel) (by decide +kernel) rfl rfl rfl h
  refine ⟨r1, w2, hc, fun x3 er hSw2 => ?_⟩
  subst er
  have h : PS X k 293 7 [.ref 147, .int p1, .int p2, .int p3, .int p4, pm_dead, pm_dead, pm_dead] [.int x3] w2 r w' := h
  rcases sp_if_eq (mi := 293) (pc := 7) (off := 17) (t := 24) (by decide +kernel) (by decide) rfl h with ⟨hc, h⟩ | ⟨hc, h⟩
  · refine ite_t hc ?_
    have h := sp_iconst (n := (-1)) (v := (-1)) (by decide +kernel) (by decide +kernel) h
    exact sp_iret (by decide +kernel) h
  · refine ite_f hc ?_
    have h := sp_onk (i := .aload_n 0) (by decide +kernel) rfl h
    have h := sp_iconst (n := 0) (v := 0) (by decide +kernel) (by decide +kernel) h
    have h := sp_onk (i := .iload_n 1) (by decide +kernel) rfl h
    obtain ⟨r4, w5, hc, h⟩ := sp_callS (jj := 163) (mj := 217) (n := 2) (args := [.int p1, .int 0]) (ls' := [.int 0, .int p1]) (by decide +kernel) (by decide +kernel) (by decide +kernel) rfl rfl rfl h
    refine ⟨r4, w5, hc, fun x6 er hSw5 => ?_⟩
    subst er
    have h : PS X k 293 16 [.ref 147, .int p1, .int p2, .int p3, .int p4, pm_dead, pm_dead, pm_dead] [.int x6, .ref 147] w5 r w' := h
    have h := sp_onk (i := .iload 4) (by decide +kernel) rfl h
    obtain ⟨r7, w8, hc, h⟩ := sp_callV (jj := 334) (mj := 283) (n := 2) (v := .ref 147) (args := [.int p4, .int x6]) (ls' := [.ref 147, .int x6, .int p4]) (by decide +kernel) (by decide +kernel) rfl rfl rfl h
    refine ⟨r7, w8, hc, fun x9 er hSw8 => ?_⟩
    subst er
    have h : PS X k 293 21 [.ref 147, .int p1, .int p2, .int p3, .int p4, pm_dead, pm_dead, pm_dead] [.int x9] w8 r w' := h
    rcases sp_if_ne (mi := 293) (pc := 21) (off := 5) (t := 26) (by decide +kernel) (by decide) rfl h with ⟨hc, h⟩ | ⟨hc, h⟩
    · refine ite_f hc ?_
      have h := sp_iconst (n := 0) (v := 0) (by decide +kernel) (by decide +kernel) h
      have h := sp_onk (i := .iload_n 1) (by decide +kernel) rfl h
      obtain ⟨r10, w11, hc, h⟩ := sp_callS (jj := 163) (mj := 217) (n := 2) (args := [.int p1, .int 0]) (ls' := [.int 0, .int p1]) (by decide +kernel) (by decide +kernel) (by decide +kernel) rfl rfl rfl h
      refine ⟨r10, w11, hc, fun x12 er hSw11 => ?_⟩
      subst er
      have h : PS X k 293 31 [.ref 147, .int p1, .int p2, .int p3, .int p4, pm_dead, pm_dead, pm_dead] [.int x12] w11 r w' := h
      have h := sp_istore (j := 5) (ls' := [.ref 147, .int p1, .int p2, .int p3, .int p4, .int x12, pm_dead, pm_dead]) (by decide +kernel) (Nat.le_of_ble_eq_true rfl) rfl h
      have h := sp_onk (i := .aload_n 0) (by decide +kernel) rfl h
      have h := sp_onk (i := .iload 5) (by decide +kernel) rfl h
      have h := sp_onk (i := .iload 4) (by decide +kernel) rfl h
      obtain ⟨r13, w14, hc, h⟩ := sp_callV (jj := 331) (mj := 285) (n := 2) (v := .ref 147) (args := [.int p4, .int x12]) (ls' := [.ref 147, .int x12, .int p4, pm_dead, pm_dead, pm_dead]) (by decide +kernel) (by decide +kernel) rfl rfl rfl h
      refine ⟨r13, w14, hc, fun er hSw14 => ?_⟩
      subst er
      have h : PS X k 293 41 [.ref 147, .int p1, .int p2, .int p3, .int p4, .int x12, pm_dead, pm_dead] [] w14 r w' := h
      have h := sp_iconst (n := 0) (v := 0) (by decide +kernel) (by decide +kernel) h
      have h := sp_istore (j := 6) (ls' := [.ref 147, .int p1, .int p2, .int p3, .int p4, .int x12, .int 0, pm_dead]) (by decide +kernel) (Nat.le_of_ble_eq_true rfl) rfl h
      exact h
    · refine ite_t (Classical.not_not.mp hc) ?_
      have h := sp_iconst (n := (-1)) (v := (-1)) (by decide +kernel) (by decide +kernel) h
      exact sp_iret (by decide +kernel) h
set_option maxRecDepth 20000 in
set_option maxHeartbeats 2000000 in
theorem U293_44 {X : pm_X} {k : Nat} {w w' : pm_W} {r : Option Value} {i1 : Int32} {i2 : Int32} {i3 : Int32} {i4 : Int32} {i5 : Int32} {i6 : Int32} {u7 : Value} (hS : SK w) (h : PS X (k + 1) 293 44 [.ref 147, .int i1, .int i2, .int i3, .int i4, .int i5, .int i6, u7] [] w r w') : aI w 148 i5 ∧ (if (aG w 148 i5) ≤ i6 then (PS X k 293 112 [.ref 147, .int i1, .int i2, .int i3, .int i4, .int i5, .int 0, .int 0] [] w r w') else (PS X k 293 59 [.ref 147, .int i1, .int i2, .int i3, .int i4, .int i5, .int i6, .int 0] [] w r w')) := by
  have h := sp_one (i := .iload 6) (by decide +kernel) rfl h
  have h := sp_onk (i := .aload_n 0) (by decide +kernel) rfl h
  have h := sp_getK (jj := 7) (ci := 12) (n := 0) (b := 148) (by decide +kernel) (by decide +kernel) (by decide +kernel) (by decide +kernel) (by decide) hS h
  have h := sp_onk (i := .iload 5) (by decide +kernel) rfl h
  obtain ⟨hi, h⟩ := sp_iald (by decide +kernel) h
  refine ⟨hi, ?_⟩
  rcases sp_icmp_ge (mi := 293) (pc := 53) (off := 53) (t := 106) (by decide +kernel) (by decide) rfl h with ⟨hc, h⟩ | ⟨hc, h⟩
  · refine ite_t hc ?_
    have h := sp_iconst (n := 0) (v := 0) (by decide +kernel) (by decide +kernel) h
    have h := sp_istore (j := 6) (ls' := [.ref 147, .int i1, .int i2, .int i3, .int i4, .int i5, .int 0, u7]) (by decide +kernel) (Nat.le_of_ble_eq_true rfl) rfl h
    have h := sp_iconst (n := 0) (v := 0) (by decide +kernel) (by decide +kernel) h
    have h := sp_istore (j := 7) (ls' := [.ref 147, .int i1, .int i2, .int i3, .int i4, .int i5, .int 0, .int 0]) (by decide +kernel) (Nat.le_of_ble_eq_true rfl) rfl h
    exact h
  · refine ite_f hc ?_
    have h := sp_iconst (n := 0) (v := 0) (by decide +kernel) (by decide +kernel) h
    have h := sp_istore (j := 7) (ls' := [.ref 147, .int i1, .int i2, .int i3, .int i4, .int i5, .int i6, .int 0]) (by decide +kernel) (Nat.le_of_ble_eq_true rfl) rfl h
    exact h
set_option maxRecDepth 20000 in
set_option maxHeartbeats 2000000 in
theorem U293_59 {X : pm_X} {k : Nat} {w w' : pm_W} {r : Option Value} {i1 : Int32} {i2 : Int32} {i3 : Int32} {i4 : Int32} {i5 : Int32} {i6 : Int32} {i7 : Int32} (hS : SK w) (h : PS X (k + 1) 293 59 [.ref 147, .int i1, .int i2, .int i3, .int i4, .int i5, .int i6, .int i7] [] w r w') : aI w 148 i5 ∧ (if (aG w 148 i5) ≤ i7 then (PS X k 293 44 [.ref 147, .int i1, .int i2, .int i3, .int i4, .int i5, .int (i6 + 1), .int i7] [] w r w') else (∃ (r1 : Option Value) (w2 : pm_W), PS X k 231 0 [.ref 147, .int i5, .int i6, .int i7, pm_dead] [] w r1 w2 ∧ (∀ x3 : Int32, r1 = some (.int x3) → SK w2 → (aI w2 161 ((10 * i6) + i7) ∧ (∀ w4 : pm_W, w4 = aS w2 161 ((10 * i6) + i7) x3 → (PS X k 293 59 [.ref 147, .int i1, .int i2, .int i3, .int i4, .int i5, .int i6, .int (i7 + 1)] [] w4 r w')))))) := by
  have h := sp_one (i := .iload 7) (by decide +kernel) rfl h
  have h := sp_onk (i := .aload_n 0) (by decide +kernel) rfl h
  have h := sp_getK (jj := 7) (ci := 12) (n := 0) (b := 148) (by decide +kernel) (by decide +kernel) (by decide +kernel) (by decide +kernel) (by decide) hS h
  have h := sp_onk (i := .iload 5) (by decide +kernel) rfl h
  obtain ⟨hi, h⟩ := sp_iald (by decide +kernel) h
  refine ⟨hi, ?_⟩
  rcases sp_icmp_ge (mi := 293) (pc := 68) (off := 32) (t := 100) (by decide +kernel) (by decide) rfl h with ⟨hc, h⟩ | ⟨hc, h⟩
  · refine ite_t hc ?_
    have h := sp_iinc (j := 6) (n := 1) (v := 1) (ls' := [.ref 147, .int i1, .int i2, .int i3, .int i4, .int i5, .int (i6 + 1), .int i7]) (by decide +kernel) rfl (by decide +kernel) rfl h
    have h := sp_goto (mi := 293) (pc := 103) (off := (-59)) (t := 44) (by decide +kernel) (by decide) rfl h
    exact h
  · refine ite_f hc ?_
    have h := sp_onk (i := .aload_n 0) (by decide +kernel) rfl h
    have h := sp_getK (jj := 50) (ci := 12) (n := 26) (b := 161) (by decide +kernel) (by decide +kernel) (by decide +kernel) (by decide +kernel) (by decide) hS h
    have h := sp_bipush (n := 10) (v := 10) (by decide +kernel) (by decide +kernel) h
    have h := sp_onk (i := .iload 6) (by decide +kernel) rfl h
    have h := sp_onk (i := .imul) (by decide +kernel) rfl h
    have h := sp_onk (i := .iload 7) (by decide +kernel) rfl h
    have h := sp_onk (i := .iadd) (by decide +kernel) rfl h
    have h := sp_onk (i := .aload_n 0) (by decide +kernel) rfl h
    have h := sp_onk (i := .iload 5) (by decide +kernel) rfl h
    have h := sp_onk (i := .iload 6) (by decide +kernel) rfl h
    have h := sp_onk (i := .iload 7) (by decide +kernel) rfl h
    obtain ⟨r1, w2, hc, h⟩ := sp_callV (jj := 199) (mj := 231) (n := 3) (v := .ref 147) (args := [.int i7, .int i6, .int i5]) (ls' := [.ref 147, .int i5, .int i6, .int i7, pm_dead]) (by decide +kernel) (by decide +kernel) rfl rfl rfl h
    refine ⟨r1, w2, hc, fun x3 er hSw2 => ?_⟩
    subst er
    have h : PS X k 293 93 [.ref 147, .int i1, .int i2, .int i3, .int i4, .int i5, .int i6, .int i7] [.int x3, .int ((10 * i6) + i7), .ref 161] w2 r w' := h
    obtain ⟨hi, h⟩ := sp_iast (by decide +kernel) h
    refine ⟨hi, ?_⟩
    intro w4 ew4
    rw [← ew4] at h
    have hSw4 : SK w4 := by rw [ew4]; exact SK_aS hSw2
    have h := sp_iinc (j := 7) (n := 1) (v := 1) (ls' := [.ref 147, .int i1, .int i2, .int i3, .int i4, .int i5, .int i6, .int (i7 + 1)]) (by decide +kernel) rfl (by decide +kernel) rfl h
    have h := sp_goto (mi := 293) (pc := 97) (off := (-38)) (t := 59) (by decide +kernel) (by decide) rfl h
    exact h
set_option maxRecDepth 20000 in
set_option maxHeartbeats 2000000 in
theorem U293_112 {X : pm_X} {k : Nat} {w w' : pm_W} {r : Option Value} {i1 : Int32} {i2 : Int32} {i3 : Int32} {i4 : Int32} {i5 : Int32} {i6 : Int32} {i7 : Int32} (hS : SK w) (h : PS X (k + 1) 293 112 [.ref 147, .int i1, .int i2, .int i3, .int i4, .int i5, .int i6, .int i7] [] w r w') : aI w 148 i5 ∧ (if (aG w 148 i5) ≤ i7 then (PS X k 293 159 [.ref 147, .int i1, .int i2, .int i3, .int i4, .int i5, .int i6, .int 0] [] w r w') else (aI w 163 i7 ∧ (if (aG w 163 i7) ≤ 0 then (PS X k 293 112 [.ref 147, .int i1, .int i2, .int i3, .int i4, .int i5, .int (i6 + 0), .int (i7 + 1)] [] w r w') else (aI w 163 i7 ∧ (PS X k 293 112 [.ref 147, .int i1, .int i2, .int i3, .int i4, .int i5, .int (i6 + (aG w 163 i7)), .int (i7 + 1)] [] w r w'))))) := by
  have h := sp_one (i := .iload 7) (by decide +kernel) rfl h
  have h := sp_onk (i := .aload_n 0) (by decide +kernel) rfl h
  have h := sp_getK (jj := 7) (ci := 12) (n := 0) (b := 148) (by decide +kernel) (by decide +kernel) (by decide +kernel) (by decide +kernel) (by decide) hS h
  have h := sp_onk (i := .iload 5) (by decide +kernel) rfl h
  obtain ⟨hi, h⟩ := sp_iald (by decide +kernel) h
  refine ⟨hi, ?_⟩
  rcases sp_icmp_ge (mi := 293) (pc := 121) (off := 35) (t := 156) (by decide +kernel) (by decide) rfl h with ⟨hc, h⟩ | ⟨hc, h⟩
  · refine ite_t hc ?_
    have h := sp_iconst (n := 0) (v := 0) (by decide +kernel) (by decide +kernel) h
    have h := sp_istore (j := 7) (ls' := [.ref 147, .int i1, .int i2, .int i3, .int i4, .int i5, .int i6, .int 0]) (by decide +kernel) (Nat.le_of_ble_eq_true rfl) rfl h
    exact h
  · refine ite_f hc ?_
    have h := sp_onk (i := .iload 6) (by decide +kernel) rfl h
    have h := sp_onk (i := .aload_n 0) (by decide +kernel) rfl h
    have h := sp_getK (jj := 56) (ci := 12) (n := 28) (b := 163) (by decide +kernel) (by decide +kernel) (by decide +kernel) (by decide +kernel) (by decide) hS h
    have h := sp_onk (i := .iload 7) (by decide +kernel) rfl h
    obtain ⟨hi, h⟩ := sp_iald (by decide +kernel) h
    refine ⟨hi, ?_⟩
    rcases sp_if_le (mi := 293) (pc := 133) (off := 13) (t := 146) (by decide +kernel) (by decide) rfl h with ⟨hc, h⟩ | ⟨hc, h⟩
    · refine ite_t hc ?_
      have h := sp_iconst (n := 0) (v := 0) (by decide +kernel) (by decide +kernel) h
      have h := sp_onk (i := .iadd) (by decide +kernel) rfl h
      have h := sp_istore (j := 6) (ls' := [.ref 147, .int i1, .int i2, .int i3, .int i4, .int i5, .int (i6 + 0), .int i7]) (by decide +kernel) (Nat.le_of_ble_eq_true rfl) rfl h
      have h := sp_iinc (j := 7) (n := 1) (v := 1) (ls' := [.ref 147, .int i1, .int i2, .int i3, .int i4, .int i5, .int (i6 + 0), .int (i7 + 1)]) (by decide +kernel) rfl (by decide +kernel) rfl h
      have h := sp_goto (mi := 293) (pc := 153) (off := (-41)) (t := 112) (by decide +kernel) (by decide) rfl h
      exact h
    · refine ite_f hc ?_
      have h := sp_onk (i := .aload_n 0) (by decide +kernel) rfl h
      have h := sp_getK (jj := 56) (ci := 12) (n := 28) (b := 163) (by decide +kernel) (by decide +kernel) (by decide +kernel) (by decide +kernel) (by decide) hS h
      have h := sp_onk (i := .iload 7) (by decide +kernel) rfl h
      obtain ⟨hi, h⟩ := sp_iald (by decide +kernel) h
      refine ⟨hi, ?_⟩
      have h := sp_goto (mi := 293) (pc := 143) (off := 4) (t := 147) (by decide +kernel) (by decide) rfl h
      have h := sp_onk (i := .iadd) (by decide +kernel) rfl h
      have h := sp_istore (j := 6) (ls' := [.ref 147, .int i1, .int i2, .int i3, .int i4, .int i5, .int (i6 + (aG w 163 i7)), .int i7]) (by decide +kernel) (Nat.le_of_ble_eq_true rfl) rfl h
      have h := sp_iinc (j := 7) (n := 1) (v := 1) (ls' := [.ref 147, .int i1, .int i2, .int i3, .int i4, .int i5, .int (i6 + (aG w 163 i7)), .int (i7 + 1)]) (by decide +kernel) rfl (by decide +kernel) rfl h
      have h := sp_goto (mi := 293) (pc := 153) (off := (-41)) (t := 112) (by decide +kernel) (by decide) rfl h
      exact h
set_option maxRecDepth 20000 in
set_option maxHeartbeats 2000000 in
theorem U293_159 {X : pm_X} {k : Nat} {w w' : pm_W} {r : Option Value} {i1 : Int32} {i2 : Int32} {i3 : Int32} {i4 : Int32} {i5 : Int32} {i6 : Int32} {i7 : Int32} (hS : SK w) (h : PS X (k + 1) 293 159 [.ref 147, .int i1, .int i2, .int i3, .int i4, .int i5, .int i6, .int i7] [] w r w') : if i6 ≤ i7 then (∃ (r1 : Option Value) (w2 : pm_W), PS X k 297 0 [.ref 147, .int i5, pm_dead, pm_dead, pm_dead] [] w r1 w2 ∧ (∀ x3 : Int32, r1 = some (.int x3) → SK w2 → (r = some (.int x3) ∧ w' = w2))) else (∃ (r4 : Option Value) (w5 : pm_W), PS X k 294 0 [.ref 147, .int i5, pm_dead, pm_dead, pm_dead, pm_dead] [] w r4 w5 ∧ (r4 = none → SK w5 → (PS X k 293 159 [.ref 147, .int i1, .int i2, .int i3, .int i4, .int i5, .int i6, .int (i7 + 1)] [] w5 r w'))) := by
  have h := sp_one (i := .iload 7) (by decide +kernel) rfl h
  have h := sp_onk (i := .iload 6) (by decide +kernel) rfl h
  rcases sp_icmp_ge (mi := 293) (pc := 163) (off := 15) (t := 178) (by decide +kernel) (by decide) rfl h with ⟨hc, h⟩ | ⟨hc, h⟩
  · refine ite_t hc ?_
    have h := sp_onk (i := .aload_n 0) (by decide +kernel) rfl h
    have h := sp_onk (i := .iload 5) (by decide +kernel) rfl h
    obtain ⟨r1, w2, hc, h⟩ := sp_callV (jj := 358) (mj := 297) (n := 1) (v := .ref 147) (args := [.int i5]) (ls' := [.ref 147, .int i5, pm_dead, pm_dead, pm_dead]) (by decide +kernel) (by decide +kernel) rfl rfl rfl h
    refine ⟨r1, w2, hc, fun x3 er hSw2 => ?_⟩
    subst er
    have h : PS X k 293 184 [.ref 147, .int i1, .int i2, .int i3, .int i4, .int i5, .int i6, .int i7] [.int x3] w2 r w' := h
    exact sp_iret (by decide +kernel) h
  · refine ite_f hc ?_
    have h := sp_onk (i := .aload_n 0) (by decide +kernel) rfl h
    have h := sp_onk (i := .iload 5) (by decide +kernel) rfl h
    obtain ⟨r4, w5, hc, h⟩ := sp_callV (jj := 355) (mj := 294) (n := 1) (v := .ref 147) (args := [.int i5]) (ls' := [.ref 147, .int i5, pm_dead, pm_dead, pm_dead, pm_dead]) (by decide +kernel) (by decide +kernel) rfl rfl rfl h
    refine ⟨r4, w5, hc, fun er hSw5 => ?_⟩
    subst er
    have h : PS X k 293 172 [.ref 147, .int i1, .int i2, .int i3, .int i4, .int i5, .int i6, .int i7] [] w5 r w' := h
    have h := sp_iinc (j := 7) (n := 1) (v := 1) (ls' := [.ref 147, .int i1, .int i2, .int i3, .int i4, .int i5, .int i6, .int (i7 + 1)]) (by decide +kernel) rfl (by decide +kernel) rfl h
    have h := sp_goto (mi := 293) (pc := 175) (off := (-16)) (t := 159) (by decide +kernel) (by decide) rfl h
    exact h
set_option maxRecDepth 20000 in
set_option maxHeartbeats 2000000 in
theorem U294_0 {X : pm_X} {k : Nat} {w w' : pm_W} {r : Option Value} {p1 : Int32} (hS : SK w) (h : PS X (k + 1) 294 0 [.ref 147, .int p1, pm_dead, pm_dead, pm_dead, pm_dead] [] w r w') : PS X k 294 2 [.ref 147, .int p1, .int 0, pm_dead, pm_dead, pm_dead] [] w r w' := by
  have h := sp_iconst1 (n := 0) (v := 0) (by decide +kernel) (by decide +kernel) h
  have h := sp_istore_n (j := 2) (ls' := [.ref 147, .int p1, .int 0, pm_dead, pm_dead, pm_dead]) (by decide +kernel) (Nat.le_of_ble_eq_true rfl) rfl h
  exact h
set_option maxRecDepth 20000 in
set_option maxHeartbeats 2000000 in
theorem U294_2 {X : pm_X} {k : Nat} {w w' : pm_W} {r : Option Value} {i1 : Int32} {i2 : Int32} (hS : SK w) (h : PS X (k + 1) 294 2 [.ref 147, .int i1, .int i2, pm_dead, pm_dead, pm_dead] [] w r w') : if 10 ≤ i2 then (PS X k 294 57 [.ref 147, .int i1, .int 0, pm_dead, pm_dead, pm_dead] [] w r w') else (aI w 163 i2 ∧ (if (aG w 163 i2) ≤ 0 then (aI w 164 i2 ∧ (∀ w1 : pm_W, w1 = aS w 164 i2 (-1) → (aI w1 163 i2 ∧ (if (aG w1 163 i2) ≤ 0 then (aI w1 165 i2 ∧ (∀ w2 : pm_W, w2 = aS w1 165 i2 1000000 → (PS X k 294 2 [.ref 147, .int i1, .int (i2 + 1), pm_dead, pm_dead, pm_dead] [] w2 r w'))) else (aI w1 165 i2 ∧ (∀ w3 : pm_W, w3 = aS w1 165 i2 0 → (PS X k 294 2 [.ref 147, .int i1, .int (i2 + 1), pm_dead, pm_dead, pm_dead] [] w3 r w'))))))) else (aI w 164 i2 ∧ (∀ w4 : pm_W, w4 = aS w 164 i2 i2 → (aI w4 163 i2 ∧ (if (aG w4 163 i2) ≤ 0 then (aI w4 165 i2 ∧ (∀ w5 : pm_W, w5 = aS w4 165 i2 1000000 → (PS X k 294 2 [.ref 147, .int i1, .int (i2 + 1), pm_dead, pm_dead, pm_dead] [] w5 r w'))) else (aI w4 165 i2 ∧ (∀ w6 : pm_W, w6 = aS w4 165 i2 0 → (PS X k 294 2 [.ref 147, .int i1, .int (i2 + 1), pm_dead, pm_dead, pm_dead] [] w6 r w'))))))))) := by
  have h := sp_one (i := .iload_n 2) (by decide +kernel) rfl h
  have h := sp_bipush (n := 10) (v := 10) (by decide +kernel) (by decide +kernel) h
  rcases sp_icmp_ge (mi := 294) (pc := 5) (off := 50) (t := 55) (by decide +kernel) (by decide) rfl h with ⟨hc, h⟩ | ⟨hc, h⟩
  · refine ite_t hc ?_
    have h := sp_iconst (n := 0) (v := 0) (by decide +kernel) (by decide +kernel) h
    have h := sp_istore_n (j := 2) (ls' := [.ref 147, .int i1, .int 0, pm_dead, pm_dead, pm_dead]) (by decide +kernel) (Nat.le_of_ble_eq_true rfl) rfl h
    exact h
  · refine ite_f hc ?_
    have h := sp_onk (i := .aload_n 0) (by decide +kernel) rfl h
    have h := sp_getK (jj := 59) (ci := 12) (n := 29) (b := 164) (by decide +kernel) (by decide +kernel) (by decide +kernel) (by decide +kernel) (by decide) hS h
    have h := sp_onk (i := .iload_n 2) (by decide +kernel) rfl h
    have h := sp_onk (i := .aload_n 0) (by decide +kernel) rfl h
    have h := sp_getK (jj := 56) (ci := 12) (n := 28) (b := 163) (by decide +kernel) (by decide +kernel) (by decide +kernel) (by decide +kernel) (by decide) hS h
    have h := sp_onk (i := .iload_n 2) (by decide +kernel) rfl h
    obtain ⟨hi, h⟩ := sp_iald (by decide +kernel) h
    refine ⟨hi, ?_⟩
    rcases sp_if_le (mi := 294) (pc := 19) (off := 7) (t := 26) (by decide +kernel) (by decide) rfl h with ⟨hc, h⟩ | ⟨hc, h⟩
    · refine ite_t hc ?_
      have h := sp_iconst (n := (-1)) (v := (-1)) (by decide +kernel) (by decide +kernel) h
      obtain ⟨hi, h⟩ := sp_iast (by decide +kernel) h
      refine ⟨hi, ?_⟩
      intro w1 ew1
      rw [← ew1] at h
      have hSw1 : SK w1 := by rw [ew1]; exact SK_aS hS
      have h := sp_onk (i := .aload_n 0) (by decide +kernel) rfl h
      have h := sp_getK (jj := 62) (ci := 12) (n := 30) (b := 165) (by decide +kernel) (by decide +kernel) (by decide +kernel) (by decide +kernel) (by decide) hSw1 h
      have h := sp_onk (i := .iload_n 2) (by decide +kernel) rfl h
      have h := sp_onk (i := .aload_n 0) (by decide +kernel) rfl h
      have h := sp_getK (jj := 56) (ci := 12) (n := 28) (b := 163) (by decide +kernel) (by decide +kernel) (by decide +kernel) (by decide +kernel) (by decide) hSw1 h
      have h := sp_onk (i := .iload_n 2) (by decide +kernel) rfl h
      obtain ⟨hi, h⟩ := sp_iald (by decide +kernel) h
      refine ⟨hi, ?_⟩
      rcases sp_if_le (mi := 294) (pc := 39) (off := 7) (t := 46) (by decide +kernel) (by decide) rfl h with ⟨hc, h⟩ | ⟨hc, h⟩
      · refine ite_t hc ?_
        have h := sp_ldc (j := 243) (v := 1000000) (by decide +kernel) (by decide +kernel) h
        obtain ⟨hi, h⟩ := sp_iast (by decide +kernel) h
        refine ⟨hi, ?_⟩
        intro w2 ew2
        rw [← ew2] at h
        have hSw2 : SK w2 := by rw [ew2]; exact SK_aS hSw1
        have h := sp_iinc (j := 2) (n := 1) (v := 1) (ls' := [.ref 147, .int i1, .int (i2 + 1), pm_dead, pm_dead, pm_dead]) (by decide +kernel) rfl (by decide +kernel) rfl h
        have h := sp_goto (mi := 294) (pc := 52) (off := (-50)) (t := 2) (by decide +kernel) (by decide) rfl h
        exact h
      · refine ite_f hc ?_
        have h := sp_iconst (n := 0) (v := 0) (by decide +kernel) (by decide +kernel) h
        have h := sp_goto (mi := 294) (pc := 43) (off := 5) (t := 48) (by decide +kernel) (by decide) rfl h
        obtain ⟨hi, h⟩ := sp_iast (by decide +kernel) h
        refine ⟨hi, ?_⟩
        intro w3 ew3
        rw [← ew3] at h
        have hSw3 : SK w3 := by rw [ew3]; exact SK_aS hSw1
        have h := sp_iinc (j := 2) (n := 1) (v := 1) (ls' := [.ref 147, .int i1, .int (i2 + 1), pm_dead, pm_dead, pm_dead]) (by decide +kernel) rfl (by decide +kernel) rfl h
        have h := sp_goto (mi := 294) (pc := 52) (off := (-50)) (t := 2) (by decide +kernel) (by decide) rfl h
        exact h
    · refine ite_f hc ?_
      have h := sp_onk (i := .iload_n 2) (by decide +kernel) rfl h
      have h := sp_goto (mi := 294) (pc := 23) (off := 4) (t := 27) (by decide +kernel) (by decide) rfl h
      obtain ⟨hi, h⟩ := sp_iast (by decide +kernel) h
      refine ⟨hi, ?_⟩
      intro w4 ew4
      rw [← ew4] at h
      have hSw4 : SK w4 := by rw [ew4]; exact SK_aS hS
      have h := sp_onk (i := .aload_n 0) (by decide +kernel) rfl h
      have h := sp_getK (jj := 62) (ci := 12) (n := 30) (b := 165) (by decide +kernel) (by decide +kernel) (by decide +kernel) (by decide +kernel) (by decide) hSw4 h
      have h := sp_onk (i := .iload_n 2) (by decide +kernel) rfl h
      have h := sp_onk (i := .aload_n 0) (by decide +kernel) rfl h
      have h := sp_getK (jj := 56) (ci := 12) (n := 28) (b := 163) (by decide +kernel) (by decide +kernel) (by decide +kernel) (by decide +kernel) (by decide) hSw4 h
      have h := sp_onk (i := .iload_n 2) (by decide +kernel) rfl h
      obtain ⟨hi, h⟩ := sp_iald (by decide +kernel) h
      refine ⟨hi, ?_⟩
      rcases sp_if_le (mi := 294) (pc := 39) (off := 7) (t := 46) (by decide +kernel) (by decide) rfl h with ⟨hc, h⟩ | ⟨hc, h⟩
      · refine ite_t hc ?_
        have h := sp_ldc (j := 243) (v := 1000000) (by decide +kernel) (by decide +kernel) h
        obtain ⟨hi, h⟩ := sp_iast (by decide +kernel) h
        refine ⟨hi, ?_⟩
        intro w5 ew5
        rw [← ew5] at h
        have hSw5 : SK w5 := by rw [ew5]; exact SK_aS hSw4
        have h := sp_iinc (j := 2) (n := 1) (v := 1) (ls' := [.ref 147, .int i1, .int (i2 + 1), pm_dead, pm_dead, pm_dead]) (by decide +kernel) rfl (by decide +kernel) rfl h
        have h := sp_goto (mi := 294) (pc := 52) (off := (-50)) (t := 2) (by decide +kernel) (by decide) rfl h
        exact h
      · refine ite_f hc ?_
        have h := sp_iconst (n := 0) (v := 0) (by decide +kernel) (by decide +kernel) h
        have h := sp_goto (mi := 294) (pc := 43) (off := 5) (t := 48) (by decide +kernel) (by decide) rfl h
        obtain ⟨hi, h⟩ := sp_iast (by decide +kernel) h
        refine ⟨hi, ?_⟩
        intro w6 ew6
        rw [← ew6] at h
        have hSw6 : SK w6 := by rw [ew6]; exact SK_aS hSw4
        have h := sp_iinc (j := 2) (n := 1) (v := 1) (ls' := [.ref 147, .int i1, .int (i2 + 1), pm_dead, pm_dead, pm_dead]) (by decide +kernel) rfl (by decide +kernel) rfl h
        have h := sp_goto (mi := 294) (pc := 52) (off := (-50)) (t := 2) (by decide +kernel) (by decide) rfl h
        exact h
set_option maxRecDepth 20000 in
set_option maxHeartbeats 2000000 in
theorem U294_57 {X : pm_X} {k : Nat} {w w' : pm_W} {r : Option Value} {i1 : Int32} {i2 : Int32} {u3 : Value} {u4 : Value} (hS : SK w) (h : PS X (k + 1) 294 57 [.ref 147, .int i1, .int i2, u3, u4, pm_dead] [] w r w') : if 10 ≤ i2 then (PS X k 294 184 [.ref 147, .int i1, .int (-1), .int 0, u4, pm_dead] [] w r w') else (PS X k 294 65 [.ref 147, .int i1, .int i2, .int 0, u4, pm_dead] [] w r w') := by
  have h := sp_one (i := .iload_n 2) (by decide +kernel) rfl h
  have h := sp_bipush (n := 10) (v := 10) (by decide +kernel) (by decide +kernel) h
  rcases sp_icmp_ge (mi := 294) (pc := 60) (off := 120) (t := 180) (by decide +kernel) (by decide) rfl h with ⟨hc, h⟩ | ⟨hc, h⟩
  · refine ite_t hc ?_
    have h := sp_iconst (n := (-1)) (v := (-1)) (by decide +kernel) (by decide +kernel) h
    have h := sp_istore_n (j := 2) (ls' := [.ref 147, .int i1, .int (-1), u3, u4, pm_dead]) (by decide +kernel) (Nat.le_of_ble_eq_true rfl) rfl h
    have h := sp_iconst (n := 0) (v := 0) (by decide +kernel) (by decide +kernel) h
    have h := sp_istore_n (j := 3) (ls' := [.ref 147, .int i1, .int (-1), .int 0, u4, pm_dead]) (by decide +kernel) (Nat.le_of_ble_eq_true rfl) rfl h
    exact h
  · refine ite_f hc ?_
    have h := sp_iconst (n := 0) (v := 0) (by decide +kernel) (by decide +kernel) h
    have h := sp_istore_n (j := 3) (ls' := [.ref 147, .int i1, .int i2, .int 0, u4, pm_dead]) (by decide +kernel) (Nat.le_of_ble_eq_true rfl) rfl h
    exact h
set_option maxRecDepth 20000 in
set_option maxHeartbeats 2000000 in
theorem U294_65 {X : pm_X} {k : Nat} {w w' : pm_W} {r : Option Value} {i1 : Int32} {i2 : Int32} {i3 : Int32} {u4 : Value} (hS : SK w) (h : PS X (k + 1) 294 65 [.ref 147, .int i1, .int i2, .int i3, u4, pm_dead] [] w r w') : aI w 148 i1 ∧ (if (aG w 148 i1) ≤ i3 then (PS X k 294 57 [.ref 147, .int i1, .int (i2 + 1), .int i3, u4, pm_dead] [] w r w') else (PS X k 294 78 [.ref 147, .int i1, .int i2, .int i3, .int 0, pm_dead] [] w r w')) := by
  have h := sp_one (i := .iload_n 3) (by decide +kernel) rfl h
  have h := sp_onk (i := .aload_n 0) (by decide +kernel) rfl h
  have h := sp_getK (jj := 7) (ci := 12) (n := 0) (b := 148) (by decide +kernel) (by decide +kernel) (by decide +kernel) (by decide +kernel) (by decide) hS h
  have h := sp_onk (i := .iload_n 1) (by decide +kernel) rfl h
  obtain ⟨hi, h⟩ := sp_iald (by decide +kernel) h
  refine ⟨hi, ?_⟩
  rcases sp_icmp_ge (mi := 294) (pc := 72) (off := 102) (t := 174) (by decide +kernel) (by decide) rfl h with ⟨hc, h⟩ | ⟨hc, h⟩
  · refine ite_t hc ?_
    have h := sp_iinc (j := 2) (n := 1) (v := 1) (ls' := [.ref 147, .int i1, .int (i2 + 1), .int i3, u4, pm_dead]) (by decide +kernel) rfl (by decide +kernel) rfl h
    have h := sp_goto (mi := 294) (pc := 177) (off := (-120)) (t := 57) (by decide +kernel) (by decide) rfl h
    exact h
  · refine ite_f hc ?_
    have h := sp_iconst (n := 0) (v := 0) (by decide +kernel) (by decide +kernel) h
    have h := sp_istore (j := 4) (ls' := [.ref 147, .int i1, .int i2, .int i3, .int 0, pm_dead]) (by decide +kernel) (Nat.le_of_ble_eq_true rfl) rfl h
    exact h
set_option maxRecDepth 20000 in
set_option maxHeartbeats 2000000 in
theorem U294_78 {X : pm_X} {k : Nat} {w w' : pm_W} {r : Option Value} {i1 : Int32} {i2 : Int32} {i3 : Int32} {i4 : Int32} (hS : SK w) (h : PS X (k + 1) 294 78 [.ref 147, .int i1, .int i2, .int i3, .int i4, pm_dead] [] w r w') : aI w 148 i1 ∧ (if (aG w 148 i1) ≤ i4 then (PS X k 294 65 [.ref 147, .int i1, .int i2, .int (i3 + 1), .int i4, pm_dead] [] w r w') else (if i3 = i4 then (PS X k 294 162 [.ref 147, .int i1, .int i2, .int i3, .int i4, pm_dead] [] w r w') else (aI w 165 i3 ∧ (if (aG w 165 i3) = 1000000 then (PS X k 294 162 [.ref 147, .int i1, .int i2, .int i3, .int i4, pm_dead] [] w r w') else (aI w 165 i3 ∧ (∃ (r1 : Option Value) (w2 : pm_W), PS X k 295 0 [.ref 147, .int i3, .int i4, pm_dead, pm_dead] [] w r1 w2 ∧ (∀ x3 : Int32, r1 = some (.int x3) → SK w2 → (aI w2 165 i4 ∧ (if ((aG w 165 i3) + x3) < (aG w2 165 i4) then (aI w2 165 i3 ∧ (∃ (r4 : Option Value) (w5 : pm_W), PS X k 295 0 [.ref 147, .int i3, .int i4, pm_dead, pm_dead] [] w2 r4 w5 ∧ (∀ x6 : Int32, r4 = some (.int x6) → SK w5 → (aI w5 165 i4 ∧ (∀ w7 : pm_W, w7 = aS w5 165 i4 ((aG w2 165 i3) + x6) → (aI w7 164 i4 ∧ (∀ w8 : pm_W, w8 = aS w7 164 i4 i3 → (PS X k 294 162 [.ref 147, .int i1, .int i2, .int i3, .int i4, pm_dead] [] w8 r w')))))))) else (PS X k 294 162 [.ref 147, .int i1, .int i2, .int i3, .int i4, pm_dead] [] w2 r w')))))))))) := by
  have h := sp_one (i := .iload 4) (by decide +kernel) rfl h
  have h := sp_onk (i := .aload_n 0) (by decide +kernel) rfl h
  have h := sp_getK (jj := 7) (ci := 12) (n := 0) (b := 148) (by decide +kernel) (by decide +kernel) (by decide +kernel) (by decide +kernel) (by decide) hS h
  have h := sp_onk (i := .iload_n 1) (by decide +kernel) rfl h
  obtain ⟨hi, h⟩ := sp_iald (by decide +kernel) h
  refine ⟨hi, ?_⟩
  rcases sp_icmp_ge (mi := 294) (pc := 86) (off := 82) (t := 168) (by decide +kernel) (by decide) rfl h with ⟨hc, h⟩ | ⟨hc, h⟩
  · refine ite_t hc ?_
    have h := sp_iinc (j := 3) (n := 1) (v := 1) (ls' := [.ref 147, .int i1, .int i2, .int (i3 + 1), .int i4, pm_dead]) (by decide +kernel) rfl (by decide +kernel) rfl h
    have h := sp_goto (mi := 294) (pc := 171) (off := (-106)) (t := 65) (by decide +kernel) (by decide) rfl h
    exact h
  · refine ite_f hc ?_
    have h := sp_onk (i := .iload_n 3) (by decide +kernel) rfl h
    have h := sp_onk (i := .iload 4) (by decide +kernel) rfl h
    rcases sp_icmp_eq (mi := 294) (pc := 92) (off := 70) (t := 162) (by decide +kernel) (by decide) rfl h with ⟨hc, h⟩ | ⟨hc, h⟩
    · refine ite_t hc ?_
      exact h
    · refine ite_f hc ?_
      have h := sp_onk (i := .aload_n 0) (by decide +kernel) rfl h
      have h := sp_getK (jj := 62) (ci := 12) (n := 30) (b := 165) (by decide +kernel) (by decide +kernel) (by decide +kernel) (by decide +kernel) (by decide) hS h
      have h := sp_onk (i := .iload_n 3) (by decide +kernel) rfl h
      obtain ⟨hi, h⟩ := sp_iald (by decide +kernel) h
      refine ⟨hi, ?_⟩
      have h := sp_ldc (j := 243) (v := 1000000) (by decide +kernel) (by decide +kernel) h
      rcases sp_icmp_eq (mi := 294) (pc := 103) (off := 59) (t := 162) (by decide +kernel) (by decide) rfl h with ⟨hc, h⟩ | ⟨hc, h⟩
      · refine ite_t hc ?_
        exact h
      · refine ite_f hc ?_
        have h := sp_onk (i := .aload_n 0) (by decide +kernel) rfl h
        have h := sp_getK (jj := 62) (ci := 12) (n := 30) (b := 165) (by decide +kernel) (by decide +kernel) (by decide +kernel) (by decide +kernel) (by decide) hS h
        have h := sp_onk (i := .iload_n 3) (by decide +kernel) rfl h
        obtain ⟨hi, h⟩ := sp_iald (by decide +kernel) h
        refine ⟨hi, ?_⟩
        have h := sp_onk (i := .aload_n 0) (by decide +kernel) rfl h
        have h := sp_onk (i := .iload_n 3) (by decide +kernel) rfl h
        have h := sp_onk (i := .iload 4) (by decide +kernel) rfl h
        obtain ⟨r1, w2, hc, h⟩ := sp_callV (jj := 352) (mj := 295) (n := 2) (v := .ref 147) (args := [.int i4, .int i3]) (ls' := [.ref 147, .int i3, .int i4, pm_dead, pm_dead]) (by decide +kernel) (by decide +kernel) rfl rfl rfl h
        refine ⟨r1, w2, hc, fun x3 er hSw2 => ?_⟩
        subst er
        have h : PS X k 294 119 [.ref 147, .int i1, .int i2, .int i3, .int i4, pm_dead] [.int x3, .int (aG w 165 i3)] w2 r w' := h
        have h := sp_onk (i := .iadd) (by decide +kernel) rfl h
        have h := sp_onk (i := .aload_n 0) (by decide +kernel) rfl h
        have h := sp_getK (jj := 62) (ci := 12) (n := 30) (b := 165) (by decide +kernel) (by decide +kernel) (by decide +kernel) (by decide +kernel) (by decide) hSw2 h
        have h := sp_onk (i := .iload 4) (by decide +kernel) rfl h
        obtain ⟨hi, h⟩ := sp_iald (by decide +kernel) h
        refine ⟨hi, ?_⟩
        rcases sp_icmp_lt (mi := 294) (pc := 127) (off := 6) (t := 133) (by decide +kernel) (by decide) rfl h with ⟨hc, h⟩ | ⟨hc, h⟩
        · refine ite_t hc ?_
          have h := sp_onk (i := .aload_n 0) (by decide +kernel) rfl h
          have h := sp_getK (jj := 62) (ci := 12) (n := 30) (b := 165) (by decide +kernel) (by decide +kernel) (by decide +kernel) (by decide +kernel) (by decide) hSw2 h
          have h := sp_onk (i := .iload 4) (by decide +kernel) rfl h
          have h := sp_onk (i := .aload_n 0) (by decide +kernel) rfl h
          have h := sp_getK (jj := 62) (ci := 12) (n := 30) (b := 165) (by decide +kernel) (by decide +kernel) (by decide +kernel) (by decide +kernel) (by decide) hSw2 h
          have h := sp_onk (i := .iload_n 3) (by decide +kernel) rfl h
          obtain ⟨hi, h⟩ := sp_iald (by decide +kernel) h
          refine ⟨hi, ?_⟩
          have h := sp_onk (i := .aload_n 0) (by decide +kernel) rfl h
          have h := sp_onk (i := .iload_n 3) (by decide +kernel) rfl h
          have h := sp_onk (i := .iload 4) (by decide +kernel) rfl h
          obtain ⟨r4, w5, hc, h⟩ := sp_callV (jj := 352) (mj := 295) (n := 2) (v := .ref 147) (args := [.int i4, .int i3]) (ls' := [.ref 147, .int i3, .int i4, pm_dead, pm_dead]) (by decide +kernel) (by decide +kernel) rfl rfl rfl h
          refine ⟨r4, w5, hc, fun x6 er hSw5 => ?_⟩
          subst er
          have h : PS X k 294 152 [.ref 147, .int i1, .int i2, .int i3, .int i4, pm_dead] [.int x6, .int (aG w2 165 i3), .int i4, .ref 165] w5 r w' := h
          have h := sp_onk (i := .iadd) (by decide +kernel) rfl h
          obtain ⟨hi, h⟩ := sp_iast (by decide +kernel) h
          refine ⟨hi, ?_⟩
          intro w7 ew7
          rw [← ew7] at h
          have hSw7 : SK w7 := by rw [ew7]; exact SK_aS hSw5
          have h := sp_onk (i := .aload_n 0) (by decide +kernel) rfl h
          have h := sp_getK (jj := 59) (ci := 12) (n := 29) (b := 164) (by decide +kernel) (by decide +kernel) (by decide +kernel) (by decide +kernel) (by decide) hSw7 h
          have h := sp_onk (i := .iload 4) (by decide +kernel) rfl h
          have h := sp_onk (i := .iload_n 3) (by decide +kernel) rfl h
          obtain ⟨hi, h⟩ := sp_iast (by decide +kernel) h
          refine ⟨hi, ?_⟩
          intro w8 ew8
          rw [← ew8] at h
          have hSw8 : SK w8 := by rw [ew8]; exact SK_aS hSw7
          exact h
        · refine ite_f hc ?_
          have h := sp_goto (mi := 294) (pc := 130) (off := 32) (t := 162) (by decide +kernel) (by decide) rfl h
          exact h
set_option maxRecDepth 20000 in
set_option maxHeartbeats 2000000 in
theorem U294_162 {X : pm_X} {k : Nat} {w w' : pm_W} {r : Option Value} {i1 : Int32} {i2 : Int32} {i3 : Int32} {i4 : Int32} (hS : SK w) (h : PS X (k + 1) 294 162 [.ref 147, .int i1, .int i2, .int i3, .int i4, pm_dead] [] w r w') : PS X k 294 78 [.ref 147, .int i1, .int i2, .int i3, .int (i4 + 1), pm_dead] [] w r w' := by
  have h := sp_iinc1 (j := 4) (n := 1) (v := 1) (ls' := [.ref 147, .int i1, .int i2, .int i3, .int (i4 + 1), pm_dead]) (by decide +kernel) rfl (by decide +kernel) rfl h
  have h := sp_goto (mi := 294) (pc := 165) (off := (-87)) (t := 78) (by decide +kernel) (by decide) rfl h
  exact h
set_option maxRecDepth 20000 in
set_option maxHeartbeats 2000000 in
theorem U294_184 {X : pm_X} {k : Nat} {w w' : pm_W} {r : Option Value} {i1 : Int32} {i2 : Int32} {i3 : Int32} {u4 : Value} (hS : SK w) (h : PS X (k + 1) 294 184 [.ref 147, .int i1, .int i2, .int i3, u4, pm_dead] [] w r w') : aI w 148 i1 ∧ (if (aG w 148 i1) ≤ i3 then (aI w 163 i2 ∧ (aI w 163 i2 ∧ (∀ w1 : pm_W, w1 = aS w 163 i2 ((aG w 163 i2) + 1) → (PS X k 294 242 [.ref 147, .int i1, .int i2, .int i2, u4, pm_dead] [] w1 r w')))) else (aI w 163 i3 ∧ (if 0 ≤ (aG w 163 i3) then (PS X k 294 224 [.ref 147, .int i1, .int i2, .int i3, u4, pm_dead] [] w r w') else (if i2 < 0 then (PS X k 294 222 [.ref 147, .int i1, .int i2, .int i3, u4, pm_dead] [] w r w') else (aI w 165 i3 ∧ (aI w 165 i2 ∧ (if (aG w 165 i2) ≤ (aG w 165 i3) then (PS X k 294 224 [.ref 147, .int i1, .int i2, .int i3, u4, pm_dead] [] w r w') else (PS X k 294 222 [.ref 147, .int i1, .int i2, .int i3, u4, pm_dead] [] w r w')))))))) := by
  have h := sp_one (i := .iload_n 3) (by decide +kernel) rfl h
  have h := sp_onk (i := .aload_n 0) (by decide +kernel) rfl h
  have h := sp_getK (jj := 7) (ci := 12) (n := 0) (b := 148) (by decide +kernel) (by decide +kernel) (by decide +kernel) (by decide +kernel) (by decide) hS h
  have h := sp_onk (i := .iload_n 1) (by decide +kernel) rfl h
  obtain ⟨hi, h⟩ := sp_iald (by decide +kernel) h
  refine ⟨hi, ?_⟩
  rcases sp_icmp_ge (mi := 294) (pc := 191) (off := 39) (t := 230) (by decide +kernel) (by decide) rfl h with ⟨hc, h⟩ | ⟨hc, h⟩
  · refine ite_t hc ?_
    have h := sp_onk (i := .aload_n 0) (by decide +kernel) rfl h
    have h := sp_getK (jj := 56) (ci := 12) (n := 28) (b := 163) (by decide +kernel) (by decide +kernel) (by decide +kernel) (by decide +kernel) (by decide) hS h
    have h := sp_onk (i := .iload_n 2) (by decide +kernel) rfl h
    have h := sp_onk (i := .dup2) (by decide +kernel) rfl h
    obtain ⟨hi, h⟩ := sp_iald (by decide +kernel) h
    refine ⟨hi, ?_⟩
    have h := sp_iconst (n := 1) (v := 1) (by decide +kernel) (by decide +kernel) h
    have h := sp_onk (i := .iadd) (by decide +kernel) rfl h
    obtain ⟨hi, h⟩ := sp_iast (by decide +kernel) h
    refine ⟨hi, ?_⟩
    intro w1 ew1
    rw [← ew1] at h
    have hSw1 : SK w1 := by rw [ew1]; exact SK_aS hS
    have h := sp_onk (i := .iload_n 2) (by decide +kernel) rfl h
    have h := sp_istore_n (j := 3) (ls' := [.ref 147, .int i1, .int i2, .int i2, u4, pm_dead]) (by decide +kernel) (Nat.le_of_ble_eq_true rfl) rfl h
    exact h
  · refine ite_f hc ?_
    have h := sp_onk (i := .aload_n 0) (by decide +kernel) rfl h
    have h := sp_getK (jj := 56) (ci := 12) (n := 28) (b := 163) (by decide +kernel) (by decide +kernel) (by decide +kernel) (by decide +kernel) (by decide) hS h
    have h := sp_onk (i := .iload_n 3) (by decide +kernel) rfl h
    obtain ⟨hi, h⟩ := sp_iald (by decide +kernel) h
    refine ⟨hi, ?_⟩
    rcases sp_if_ge (mi := 294) (pc := 200) (off := 24) (t := 224) (by decide +kernel) (by decide) rfl h with ⟨hc, h⟩ | ⟨hc, h⟩
    · refine ite_t hc ?_
      exact h
    · refine ite_f hc ?_
      have h := sp_onk (i := .iload_n 2) (by decide +kernel) rfl h
      rcases sp_if_lt (mi := 294) (pc := 204) (off := 18) (t := 222) (by decide +kernel) (by decide) rfl h with ⟨hc, h⟩ | ⟨hc, h⟩
      · refine ite_t hc ?_
        exact h
      · refine ite_f hc ?_
        have h := sp_onk (i := .aload_n 0) (by decide +kernel) rfl h
        have h := sp_getK (jj := 62) (ci := 12) (n := 30) (b := 165) (by decide +kernel) (by decide +kernel) (by decide +kernel) (by decide +kernel) (by decide) hS h
        have h := sp_onk (i := .iload_n 3) (by decide +kernel) rfl h
        obtain ⟨hi, h⟩ := sp_iald (by decide +kernel) h
        refine ⟨hi, ?_⟩
        have h := sp_onk (i := .aload_n 0) (by decide +kernel) rfl h
        have h := sp_getK (jj := 62) (ci := 12) (n := 30) (b := 165) (by decide +kernel) (by decide +kernel) (by decide +kernel) (by decide +kernel) (by decide) hS h
        have h := sp_onk (i := .iload_n 2) (by decide +kernel) rfl h
        obtain ⟨hi, h⟩ := sp_iald (by decide +kernel) h
        refine ⟨hi, ?_⟩
        rcases sp_icmp_ge (mi := 294) (pc := 219) (off := 5) (t := 224) (by decide +kernel) (by decide) rfl h with ⟨hc, h⟩ | ⟨hc, h⟩
        · refine ite_t hc ?_
          exact h
        · refine ite_f hc ?_
          exact h
set_option maxRecDepth 20000 in
set_option maxHeartbeats 2000000 in
theorem U294_222 {X : pm_X} {k : Nat} {w w' : pm_W} {r : Option Value} {i1 : Int32} {i2 : Int32} {i3 : Int32} {u4 : Value} (hS : SK w) (h : PS X (k + 1) 294 222 [.ref 147, .int i1, .int i2, .int i3, u4, pm_dead] [] w r w') : PS X k 294 224 [.ref 147, .int i1, .int i3, .int i3, u4, pm_dead] [] w r w' := by
  have h := sp_one (i := .iload_n 3) (by decide +kernel) rfl h
  have h := sp_istore_n (j := 2) (ls' := [.ref 147, .int i1, .int i3, .int i3, u4, pm_dead]) (by decide +kernel) (Nat.le_of_ble_eq_true rfl) rfl h
  exact h
set_option maxRecDepth 20000 in
set_option maxHeartbeats 2000000 in
theorem U294_224 {X : pm_X} {k : Nat} {w w' : pm_W} {r : Option Value} {i1 : Int32} {i2 : Int32} {i3 : Int32} {u4 : Value} (hS : SK w) (h : PS X (k + 1) 294 224 [.ref 147, .int i1, .int i2, .int i3, u4, pm_dead] [] w r w') : PS X k 294 184 [.ref 147, .int i1, .int i2, .int (i3 + 1), u4, pm_dead] [] w r w' := by
  have h := sp_iinc1 (j := 3) (n := 1) (v := 1) (ls' := [.ref 147, .int i1, .int i2, .int (i3 + 1), u4, pm_dead]) (by decide +kernel) rfl (by decide +kernel) rfl h
  have h := sp_goto (mi := 294) (pc := 227) (off := (-43)) (t := 184) (by decide +kernel) (by decide) rfl h
  exact h
set_option maxRecDepth 20000 in
set_option maxHeartbeats 2000000 in
theorem U294_242 {X : pm_X} {k : Nat} {w w' : pm_W} {r : Option Value} {i1 : Int32} {i2 : Int32} {i3 : Int32} {u4 : Value} {u5 : Value} (hS : SK w) (h : PS X (k + 1) 294 242 [.ref 147, .int i1, .int i2, .int i3, u4, u5] [] w r w') : aI w 164 i3 ∧ (if (aG w 164 i3) = i3 then (aI w 163 i3 ∧ (aI w 163 i3 ∧ (∀ w1 : pm_W, w1 = aS w 163 i3 ((aG w 163 i3) - 1) → (r = none ∧ w' = w1)))) else (aI w 164 i3 ∧ (aI w 162 ((10 * i3) + (aG w 164 i3)) ∧ (if (aG w 162 ((10 * i3) + (aG w 164 i3))) ≤ 0 then (PS X k 294 312 [.ref 147, .int i1, .int i2, .int i3, .int (aG w 164 i3), u5] [] w r w') else (∃ (r2 : Option Value) (w3 : pm_W), PS X k 296 0 [.ref 147, .int i3, .int (aG w 164 i3)] [] w r2 w3 ∧ (∀ x4 : Int32, r2 = some (.int x4) → SK w3 → (if 0 ≤ x4 then (∃ (r5 : Option Value) (w6 : pm_W), PS X k 296 0 [.ref 147, .int (aG w 164 i3), .int i3] [] w3 r5 w6 ∧ (∀ x7 : Int32, r5 = some (.int x7) → SK w6 → (if x7 ≤ 0 then (aI w6 162 ((10 * i3) + (aG w 164 i3)) ∧ (aI w6 162 ((10 * i3) + (aG w 164 i3)) ∧ (∀ w8 : pm_W, w8 = aS w6 162 ((10 * i3) + (aG w 164 i3)) ((aG w6 162 ((10 * i3) + (aG w 164 i3))) - 1) → (PS X k 294 355 [.ref 147, .int i1, .int i2, .int i3, .int (aG w 164 i3), .int 1] [] w8 r w')))) else (PS X k 294 312 [.ref 147, .int i1, .int i2, .int i3, .int (aG w 164 i3), u5] [] w6 r w')))) else (∃ (r9 : Option Value) (w10 : pm_W), PS X k 296 0 [.ref 147, .int (aG w 164 i3), .int i3] [] w3 r9 w10 ∧ (∀ x11 : Int32, r9 = some (.int x11) → SK w10 → (if x11 ≤ 0 then (aI w10 162 ((10 * i3) + (aG w 164 i3)) ∧ (aI w10 162 ((10 * i3) + (aG w 164 i3)) ∧ (∀ w12 : pm_W, w12 = aS w10 162 ((10 * i3) + (aG w 164 i3)) ((aG w10 162 ((10 * i3) + (aG w 164 i3))) - 1) → (PS X k 294 355 [.ref 147, .int i1, .int i2, .int i3, .int (aG w 164 i3), .int 1] [] w12 r w')))) else (aI w10 162 ((10 * i3) + (aG w 164 i3)) ∧ (aI w10 162 ((10 * i3) + (aG w 164 i3)) ∧ (∀ w13 : pm_W, w13 = aS w10 162 ((10 * i3) + (aG w 164 i3)) ((aG w10 162 ((10 * i3) + (aG w 164 i3))) - 1) → (PS X k 294 355 [.ref 147, .int i1, .int i2, .int i3, .int (aG w 164 i3), .int 1] [] w13 r w')))))))))))))) := by
  have h := sp_one (i := .aload_n 0) (by decide +kernel) rfl h
  have h := sp_getK (jj := 59) (ci := 12) (n := 29) (b := 164) (by decide +kernel) (by decide +kernel) (by decide +kernel) (by decide +kernel) (by decide) hS h
  have h := sp_onk (i := .iload_n 3) (by decide +kernel) rfl h
  obtain ⟨hi, h⟩ := sp_iald (by decide +kernel) h
  refine ⟨hi, ?_⟩
  have h := sp_onk (i := .iload_n 3) (by decide +kernel) rfl h
  rcases sp_icmp_eq (mi := 294) (pc := 249) (off := 112) (t := 361) (by decide +kernel) (by decide) rfl h with ⟨hc, h⟩ | ⟨hc, h⟩
  · refine ite_t hc ?_
    have h := sp_onk (i := .aload_n 0) (by decide +kernel) rfl h
    have h := sp_getK (jj := 56) (ci := 12) (n := 28) (b := 163) (by decide +kernel) (by decide +kernel) (by decide +kernel) (by decide +kernel) (by decide) hS h
    have h := sp_onk (i := .iload_n 3) (by decide +kernel) rfl h
    have h := sp_onk (i := .dup2) (by decide +kernel) rfl h
    obtain ⟨hi, h⟩ := sp_iald (by decide +kernel) h
    refine ⟨hi, ?_⟩
    have h := sp_iconst (n := 1) (v := 1) (by decide +kernel) (by decide +kernel) h
    have h := sp_onk (i := .isub) (by decide +kernel) rfl h
    obtain ⟨hi, h⟩ := sp_iast (by decide +kernel) h
    refine ⟨hi, ?_⟩
    intro w1 ew1
    rw [← ew1] at h
    have hSw1 : SK w1 := by rw [ew1]; exact SK_aS hS
    exact sp_vret (by decide +kernel) h
  · refine ite_f hc ?_
    have h := sp_onk (i := .aload_n 0) (by decide +kernel) rfl h
    have h := sp_getK (jj := 59) (ci := 12) (n := 29) (b := 164) (by decide +kernel) (by decide +kernel) (by decide +kernel) (by decide +kernel) (by decide) hS h
    have h := sp_onk (i := .iload_n 3) (by decide +kernel) rfl h
    obtain ⟨hi, h⟩ := sp_iald (by decide +kernel) h
    refine ⟨hi, ?_⟩
    have h := sp_istore (j := 4) (ls' := [.ref 147, .int i1, .int i2, .int i3, .int (aG w 164 i3), u5]) (by decide +kernel) (Nat.le_of_ble_eq_true rfl) rfl h
    have h := sp_onk (i := .aload_n 0) (by decide +kernel) rfl h
    have h := sp_getK (jj := 53) (ci := 12) (n := 27) (b := 162) (by decide +kernel) (by decide +kernel) (by decide +kernel) (by decide +kernel) (by decide) hS h
    have h := sp_bipush (n := 10) (v := 10) (by decide +kernel) (by decide +kernel) h
    have h := sp_onk (i := .iload_n 3) (by decide +kernel) rfl h
    have h := sp_onk (i := .imul) (by decide +kernel) rfl h
    have h := sp_onk (i := .iload 4) (by decide +kernel) rfl h
    have h := sp_onk (i := .iadd) (by decide +kernel) rfl h
    obtain ⟨hi, h⟩ := sp_iald (by decide +kernel) h
    refine ⟨hi, ?_⟩
    rcases sp_if_le (mi := 294) (pc := 272) (off := 40) (t := 312) (by decide +kernel) (by decide) rfl h with ⟨hc, h⟩ | ⟨hc, h⟩
    · refine ite_t hc ?_
      exact h
    · refine ite_f hc ?_
      have h := sp_onk (i := .aload_n 0) (by decide +kernel) rfl h
      have h := sp_onk (i := .iload_n 3) (by decide +kernel) rfl h
      have h := sp_onk (i := .iload 4) (by decide +kernel) rfl h
      obtain ⟨r2, w3, hc, h⟩ := sp_callV (jj := 349) (mj := 296) (n := 2) (v := .ref 147) (args := [.int (aG w 164 i3), .int i3]) (ls' := [.ref 147, .int i3, .int (aG w 164 i3)]) (by decide +kernel) (by decide +kernel) rfl rfl rfl h
      refine ⟨r2, w3, hc, fun x4 er hSw3 => ?_⟩
      subst er
      have h : PS X k 294 282 [.ref 147, .int i1, .int i2, .int i3, .int (aG w 164 i3), u5] [.int x4] w3 r w' := h
      rcases sp_if_ge (mi := 294) (pc := 282) (off := 7) (t := 289) (by decide +kernel) (by decide) rfl h with ⟨hc, h⟩ | ⟨hc, h⟩
      · refine ite_t hc ?_
        have h := sp_iconst (n := 0) (v := 0) (by decide +kernel) (by decide +kernel) h
        have h := sp_onk (i := .aload_n 0) (by decide +kernel) rfl h
        have h := sp_onk (i := .iload 4) (by decide +kernel) rfl h
        have h := sp_onk (i := .iload_n 3) (by decide +kernel) rfl h
        obtain ⟨r5, w6, hc, h⟩ := sp_callV (jj := 349) (mj := 296) (n := 2) (v := .ref 147) (args := [.int i3, .int (aG w 164 i3)]) (ls' := [.ref 147, .int (aG w 164 i3), .int i3]) (by decide +kernel) (by decide +kernel) rfl rfl rfl h
        refine ⟨r5, w6, hc, fun x7 er hSw6 => ?_⟩
        subst er
        have h : PS X k 294 297 [.ref 147, .int i1, .int i2, .int i3, .int (aG w 164 i3), u5] [.int x7, .int 0] w6 r w' := h
        rcases sp_if_le (mi := 294) (pc := 297) (off := 7) (t := 304) (by decide +kernel) (by decide) rfl h with ⟨hc, h⟩ | ⟨hc, h⟩
        · refine ite_t hc ?_
          have h := sp_iconst (n := 1) (v := 1) (by decide +kernel) (by decide +kernel) h
          rcases sp_icmp_ge (mi := 294) (pc := 305) (off := 7) (t := 312) (by decide +kernel) (by decide) rfl h with ⟨hc, h⟩ | ⟨hc, h⟩
          case inl => exact absurd hc (by decide +kernel)
          have h := sp_iconst (n := 1) (v := 1) (by decide +kernel) (by decide +kernel) h
          have h := sp_goto (mi := 294) (pc := 309) (off := 4) (t := 313) (by decide +kernel) (by decide) rfl h
          have h := sp_istore (j := 5) (ls' := [.ref 147, .int i1, .int i2, .int i3, .int (aG w 164 i3), .int 1]) (by decide +kernel) (Nat.le_of_ble_eq_true rfl) rfl h
          have h := sp_onk (i := .iload 5) (by decide +kernel) rfl h
          rcases sp_if_eq (mi := 294) (pc := 317) (off := 22) (t := 339) (by decide +kernel) (by decide) rfl h with ⟨hc, h⟩ | ⟨hc, h⟩
          case inl => exact absurd hc (by decide +kernel)
          have h := sp_onk (i := .aload_n 0) (by decide +kernel) rfl h
          have h := sp_getK (jj := 53) (ci := 12) (n := 27) (b := 162) (by decide +kernel) (by decide +kernel) (by decide +kernel) (by decide +kernel) (by decide) hSw6 h
          have h := sp_bipush (n := 10) (v := 10) (by decide +kernel) (by decide +kernel) h
          have h := sp_onk (i := .iload_n 3) (by decide +kernel) rfl h
          have h := sp_onk (i := .imul) (by decide +kernel) rfl h
          have h := sp_onk (i := .iload 4) (by decide +kernel) rfl h
          have h := sp_onk (i := .iadd) (by decide +kernel) rfl h
          have h := sp_onk (i := .dup2) (by decide +kernel) rfl h
          obtain ⟨hi, h⟩ := sp_iald (by decide +kernel) h
          refine ⟨hi, ?_⟩
          have h := sp_iconst (n := 1) (v := 1) (by decide +kernel) (by decide +kernel) h
          have h := sp_onk (i := .isub) (by decide +kernel) rfl h
          obtain ⟨hi, h⟩ := sp_iast (by decide +kernel) h
          refine ⟨hi, ?_⟩
          intro w8 ew8
          rw [← ew8] at h
          have hSw8 : SK w8 := by rw [ew8]; exact SK_aS hSw6
          have h := sp_goto (mi := 294) (pc := 336) (off := 19) (t := 355) (by decide +kernel) (by decide) rfl h
          exact h
        · refine ite_f hc ?_
          have h := sp_iconst (n := 0) (v := 0) (by decide +kernel) (by decide +kernel) h
          have h := sp_goto (mi := 294) (pc := 301) (off := 4) (t := 305) (by decide +kernel) (by decide) rfl h
          rcases sp_icmp_ge (mi := 294) (pc := 305) (off := 7) (t := 312) (by decide +kernel) (by decide) rfl h with ⟨hc, h⟩ | ⟨hc, h⟩
          case inr => exact absurd (by decide +kernel) hc
          exact h
      · refine ite_f hc ?_
        have h := sp_iconst (n := (-1)) (v := (-1)) (by decide +kernel) (by decide +kernel) h
        have h := sp_goto (mi := 294) (pc := 286) (off := 4) (t := 290) (by decide +kernel) (by decide) rfl h
        have h := sp_onk (i := .aload_n 0) (by decide +kernel) rfl h
        have h := sp_onk (i := .iload 4) (by decide +kernel) rfl h
        have h := sp_onk (i := .iload_n 3) (by decide +kernel) rfl h
        obtain ⟨r9, w10, hc, h⟩ := sp_callV (jj := 349) (mj := 296) (n := 2) (v := .ref 147) (args := [.int i3, .int (aG w 164 i3)]) (ls' := [.ref 147, .int (aG w 164 i3), .int i3]) (by decide +kernel) (by decide +kernel) rfl rfl rfl h
        refine ⟨r9, w10, hc, fun x11 er hSw10 => ?_⟩
        subst er
        have h : PS X k 294 297 [.ref 147, .int i1, .int i2, .int i3, .int (aG w 164 i3), u5] [.int x11, .int (-1)] w10 r w' := h
        rcases sp_if_le (mi := 294) (pc := 297) (off := 7) (t := 304) (by decide +kernel) (by decide) rfl h with ⟨hc, h⟩ | ⟨hc, h⟩
        · refine ite_t hc ?_
          have h := sp_iconst (n := 1) (v := 1) (by decide +kernel) (by decide +kernel) h
          rcases sp_icmp_ge (mi := 294) (pc := 305) (off := 7) (t := 312) (by decide +kernel) (by decide) rfl h with ⟨hc, h⟩ | ⟨hc, h⟩
          case inl => exact absurd hc (by decide +kernel)
          have h := sp_iconst (n := 1) (v := 1) (by decide +kernel) (by decide +kernel) h
          have h := sp_goto (mi := 294) (pc := 309) (off := 4) (t := 313) (by decide +kernel) (by decide) rfl h
          have h := sp_istore (j := 5) (ls' := [.ref 147, .int i1, .int i2, .int i3, .int (aG w 164 i3), .int 1]) (by decide +kernel) (Nat.le_of_ble_eq_true rfl) rfl h
          have h := sp_onk (i := .iload 5) (by decide +kernel) rfl h
          rcases sp_if_eq (mi := 294) (pc := 317) (off := 22) (t := 339) (by decide +kernel) (by decide) rfl h with ⟨hc, h⟩ | ⟨hc, h⟩
          case inl => exact absurd hc (by decide +kernel)
          have h := sp_onk (i := .aload_n 0) (by decide +kernel) rfl h
          have h := sp_getK (jj := 53) (ci := 12) (n := 27) (b := 162) (by decide +kernel) (by decide +kernel) (by decide +kernel) (by decide +kernel) (by decide) hSw10 h
          have h := sp_bipush (n := 10) (v := 10) (by decide +kernel) (by decide +kernel) h
          have h := sp_onk (i := .iload_n 3) (by decide +kernel) rfl h
          have h := sp_onk (i := .imul) (by decide +kernel) rfl h
          have h := sp_onk (i := .iload 4) (by decide +kernel) rfl h
          have h := sp_onk (i := .iadd) (by decide +kernel) rfl h
          have h := sp_onk (i := .dup2) (by decide +kernel) rfl h
          obtain ⟨hi, h⟩ := sp_iald (by decide +kernel) h
          refine ⟨hi, ?_⟩
          have h := sp_iconst (n := 1) (v := 1) (by decide +kernel) (by decide +kernel) h
          have h := sp_onk (i := .isub) (by decide +kernel) rfl h
          obtain ⟨hi, h⟩ := sp_iast (by decide +kernel) h
          refine ⟨hi, ?_⟩
          intro w12 ew12
          rw [← ew12] at h
          have hSw12 : SK w12 := by rw [ew12]; exact SK_aS hSw10
          have h := sp_goto (mi := 294) (pc := 336) (off := 19) (t := 355) (by decide +kernel) (by decide) rfl h
          exact h
        · refine ite_f hc ?_
          have h := sp_iconst (n := 0) (v := 0) (by decide +kernel) (by decide +kernel) h
          have h := sp_goto (mi := 294) (pc := 301) (off := 4) (t := 305) (by decide +kernel) (by decide) rfl h
          rcases sp_icmp_ge (mi := 294) (pc := 305) (off := 7) (t := 312) (by decide +kernel) (by decide) rfl h with ⟨hc, h⟩ | ⟨hc, h⟩
          case inl => exact absurd hc (by decide +kernel)
          have h := sp_iconst (n := 1) (v := 1) (by decide +kernel) (by decide +kernel) h
          have h := sp_goto (mi := 294) (pc := 309) (off := 4) (t := 313) (by decide +kernel) (by decide) rfl h
          have h := sp_istore (j := 5) (ls' := [.ref 147, .int i1, .int i2, .int i3, .int (aG w 164 i3), .int 1]) (by decide +kernel) (Nat.le_of_ble_eq_true rfl) rfl h
          have h := sp_onk (i := .iload 5) (by decide +kernel) rfl h
          rcases sp_if_eq (mi := 294) (pc := 317) (off := 22) (t := 339) (by decide +kernel) (by decide) rfl h with ⟨hc, h⟩ | ⟨hc, h⟩
          case inl => exact absurd hc (by decide +kernel)
          have h := sp_onk (i := .aload_n 0) (by decide +kernel) rfl h
          have h := sp_getK (jj := 53) (ci := 12) (n := 27) (b := 162) (by decide +kernel) (by decide +kernel) (by decide +kernel) (by decide +kernel) (by decide) hSw10 h
          have h := sp_bipush (n := 10) (v := 10) (by decide +kernel) (by decide +kernel) h
          have h := sp_onk (i := .iload_n 3) (by decide +kernel) rfl h
          have h := sp_onk (i := .imul) (by decide +kernel) rfl h
          have h := sp_onk (i := .iload 4) (by decide +kernel) rfl h
          have h := sp_onk (i := .iadd) (by decide +kernel) rfl h
          have h := sp_onk (i := .dup2) (by decide +kernel) rfl h
          obtain ⟨hi, h⟩ := sp_iald (by decide +kernel) h
          refine ⟨hi, ?_⟩
          have h := sp_iconst (n := 1) (v := 1) (by decide +kernel) (by decide +kernel) h
          have h := sp_onk (i := .isub) (by decide +kernel) rfl h
          obtain ⟨hi, h⟩ := sp_iast (by decide +kernel) h
          refine ⟨hi, ?_⟩
          intro w13 ew13
          rw [← ew13] at h
          have hSw13 : SK w13 := by rw [ew13]; exact SK_aS hSw10
          have h := sp_goto (mi := 294) (pc := 336) (off := 19) (t := 355) (by decide +kernel) (by decide) rfl h
          exact h
set_option maxRecDepth 20000 in
set_option maxHeartbeats 2000000 in
theorem U294_312 {X : pm_X} {k : Nat} {w w' : pm_W} {r : Option Value} {i1 : Int32} {i2 : Int32} {i3 : Int32} {i4 : Int32} {u5 : Value} (hS : SK w) (h : PS X (k + 1) 294 312 [.ref 147, .int i1, .int i2, .int i3, .int i4, u5] [] w r w') : aI w 162 ((10 * i4) + i3) ∧ (aI w 162 ((10 * i4) + i3) ∧ (∀ w1 : pm_W, w1 = aS w 162 ((10 * i4) + i3) ((aG w 162 ((10 * i4) + i3)) + 1) → (PS X k 294 355 [.ref 147, .int i1, .int i2, .int i3, .int i4, .int 0] [] w1 r w'))) := by
  have h := sp_iconst1 (n := 0) (v := 0) (by decide +kernel) (by decide +kernel) h
  have h := sp_istore (j := 5) (ls' := [.ref 147, .int i1, .int i2, .int i3, .int i4, .int 0]) (by decide +kernel) (Nat.le_of_ble_eq_true rfl) rfl h
  have h := sp_onk (i := .iload 5) (by decide +kernel) rfl h
  rcases sp_if_eq (mi := 294) (pc := 317) (off := 22) (t := 339) (by decide +kernel) (by decide) rfl h with ⟨hc, h⟩ | ⟨hc, h⟩
  case inr => exact absurd (by decide +kernel) hc
  have h := sp_onk (i := .aload_n 0) (by decide +kernel) rfl h
  have h := sp_getK (jj := 53) (ci := 12) (n := 27) (b := 162) (by decide +kernel) (by decide +kernel) (by decide +kernel) (by decide +kernel) (by decide) hS h
  have h := sp_bipush (n := 10) (v := 10) (by decide +kernel) (by decide +kernel) h
  have h := sp_onk (i := .iload 4) (by decide +kernel) rfl h
  have h := sp_onk (i := .imul) (by decide +kernel) rfl h
  have h := sp_onk (i := .iload_n 3) (by decide +kernel) rfl h
  have h := sp_onk (i := .iadd) (by decide +kernel) rfl h
  have h := sp_onk (i := .dup2) (by decide +kernel) rfl h
  obtain ⟨hi, h⟩ := sp_iald (by decide +kernel) h
  refine ⟨hi, ?_⟩
  have h := sp_iconst (n := 1) (v := 1) (by decide +kernel) (by decide +kernel) h
  have h := sp_onk (i := .iadd) (by decide +kernel) rfl h
  obtain ⟨hi, h⟩ := sp_iast (by decide +kernel) h
  refine ⟨hi, ?_⟩
  intro w1 ew1
  rw [← ew1] at h
  have hSw1 : SK w1 := by rw [ew1]; exact SK_aS hS
  exact h
set_option maxRecDepth 20000 in
set_option maxHeartbeats 2000000 in
theorem U294_355 {X : pm_X} {k : Nat} {w w' : pm_W} {r : Option Value} {i1 : Int32} {i2 : Int32} {i3 : Int32} {i4 : Int32} {i5 : Int32} (hS : SK w) (h : PS X (k + 1) 294 355 [.ref 147, .int i1, .int i2, .int i3, .int i4, .int i5] [] w r w') : PS X k 294 242 [.ref 147, .int i1, .int i2, .int i4, .int i4, .int i5] [] w r w' := by
  have h := sp_one (i := .iload 4) (by decide +kernel) rfl h
  have h := sp_istore_n (j := 3) (ls' := [.ref 147, .int i1, .int i2, .int i4, .int i4, .int i5]) (by decide +kernel) (Nat.le_of_ble_eq_true rfl) rfl h
  have h := sp_goto (mi := 294) (pc := 358) (off := (-116)) (t := 242) (by decide +kernel) (by decide) rfl h
  exact h
set_option maxRecDepth 20000 in
set_option maxHeartbeats 2000000 in
theorem U295_0 {X : pm_X} {k : Nat} {w w' : pm_W} {r : Option Value} {p1 : Int32} {p2 : Int32} (hS : SK w) (h : PS X (k + 1) 295 0 [.ref 147, .int p1, .int p2, pm_dead, pm_dead] [] w r w') : ∃ (r1 : Option Value) (w2 : pm_W), PS X k 296 0 [.ref 147, .int p1, .int p2] [] w r1 w2 ∧ (∀ x3 : Int32, r1 = some (.int x3) → SK w2 → (if x3 ≤ 0 then (aI w2 162 ((10 * p2) + p1) ∧ (if (aG w2 162 ((10 * p2) + p1)) = 0 then (r = some (.int 1) ∧ w' = w2) else (∃ (r4 : Option Value) (w5 : pm_W), PS X k 296 0 [.ref 147, .int p2, .int p1] [] w2 r4 w5 ∧ (∀ x6 : Int32, r4 = some (.int x6) → SK w5 → (if 0 ≤ x6 then (r = some (.int 0) ∧ w' = w5) else (r = some (.int (-1)) ∧ w' = w5)))))) else (aI w2 162 ((10 * p2) + p1) ∧ (if (aG w2 162 ((10 * p2) + p1)) = 0 then (r = some (.int 0) ∧ w' = w2) else (∃ (r7 : Option Value) (w8 : pm_W), PS X k 296 0 [.ref 147, .int p2, .int p1] [] w2 r7 w8 ∧ (∀ x9 : Int32, r7 = some (.int x9) → SK w8 → (if 0 ≤ x9 then (r = some (.int 0) ∧ w' = w8) else (r = some (.int (-1)) ∧ w' = w8)))))))) := by
  have h := sp_one (i := .aload_n 0) (by decide +kernel) rfl h
  have h := sp_onk (i := .iload_n 1) (by decide +kernel) rfl h
  have h := sp_onk (i := .iload_n 2) (by decide +kernel) rfl h
  obtain ⟨r1, w2, hc, h⟩ := sp_callV (jj := 349) (mj := 296) (n := 2) (v := .ref 147) (args := [.int p2, .int p1]) (ls' := [.ref 147, .int p1, .int p2]) (by decide +kernel) (by decide +kernel) rfl rfl rfl h
  refine ⟨r1, w2, hc, fun x3 er hSw2 => ?_⟩
  subst er
  have h : PS X k 295 6 [.ref 147, .int p1, .int p2, pm_dead, pm_dead] [.int x3] w2 r w' := h
  rcases sp_if_le (mi := 295) (pc := 6) (off := 7) (t := 13) (by decide +kernel) (by decide) rfl h with ⟨hc, h⟩ | ⟨hc, h⟩
  · refine ite_t hc ?_
    have h := sp_iconst (n := 1) (v := 1) (by decide +kernel) (by decide +kernel) h
    have h := sp_istore_n (j := 3) (ls' := [.ref 147, .int p1, .int p2, .int 1, pm_dead]) (by decide +kernel) (Nat.le_of_ble_eq_true rfl) rfl h
    have h := sp_onk (i := .aload_n 0) (by decide +kernel) rfl h
    have h := sp_getK (jj := 53) (ci := 12) (n := 27) (b := 162) (by decide +kernel) (by decide +kernel) (by decide +kernel) (by decide +kernel) (by decide) hSw2 h
    have h := sp_bipush (n := 10) (v := 10) (by decide +kernel) (by decide +kernel) h
    have h := sp_onk (i := .iload_n 2) (by decide +kernel) rfl h
    have h := sp_onk (i := .imul) (by decide +kernel) rfl h
    have h := sp_onk (i := .iload_n 1) (by decide +kernel) rfl h
    have h := sp_onk (i := .iadd) (by decide +kernel) rfl h
    obtain ⟨hi, h⟩ := sp_iald (by decide +kernel) h
    refine ⟨hi, ?_⟩
    rcases sp_if_ne (mi := 295) (pc := 26) (off := 7) (t := 33) (by decide +kernel) (by decide) rfl h with ⟨hc, h⟩ | ⟨hc, h⟩
    · refine ite_f hc ?_
      have h := sp_onk (i := .aload_n 0) (by decide +kernel) rfl h
      have h := sp_onk (i := .iload_n 2) (by decide +kernel) rfl h
      have h := sp_onk (i := .iload_n 1) (by decide +kernel) rfl h
      obtain ⟨r4, w5, hc, h⟩ := sp_callV (jj := 349) (mj := 296) (n := 2) (v := .ref 147) (args := [.int p1, .int p2]) (ls' := [.ref 147, .int p2, .int p1]) (by decide +kernel) (by decide +kernel) rfl rfl rfl h
      refine ⟨r4, w5, hc, fun x6 er hSw5 => ?_⟩
      subst er
      have h : PS X k 295 39 [.ref 147, .int p1, .int p2, .int 1, pm_dead] [.int x6] w5 r w' := h
      rcases sp_if_ge (mi := 295) (pc := 39) (off := 7) (t := 46) (by decide +kernel) (by decide) rfl h with ⟨hc, h⟩ | ⟨hc, h⟩
      · refine ite_t hc ?_
        have h := sp_iconst (n := 0) (v := 0) (by decide +kernel) (by decide +kernel) h
        have h := sp_istore (j := 4) (ls' := [.ref 147, .int p1, .int p2, .int 1, .int 0]) (by decide +kernel) (Nat.le_of_ble_eq_true rfl) rfl h
        have h := sp_onk (i := .iload 4) (by decide +kernel) rfl h
        have h := sp_onk (i := .iload_n 3) (by decide +kernel) rfl h
        rcases sp_icmp_ge (mi := 295) (pc := 52) (off := 8) (t := 60) (by decide +kernel) (by decide) rfl h with ⟨hc, h⟩ | ⟨hc, h⟩
        case inl => exact absurd hc (by decide +kernel)
        have h := sp_onk (i := .iload 4) (by decide +kernel) rfl h
        have h := sp_goto (mi := 295) (pc := 57) (off := 4) (t := 61) (by decide +kernel) (by decide) rfl h
        exact sp_iret (by decide +kernel) h
      · refine ite_f hc ?_
        have h := sp_iconst (n := (-1)) (v := (-1)) (by decide +kernel) (by decide +kernel) h
        have h := sp_goto (mi := 295) (pc := 43) (off := 4) (t := 47) (by decide +kernel) (by decide) rfl h
        have h := sp_istore (j := 4) (ls' := [.ref 147, .int p1, .int p2, .int 1, .int (-1)]) (by decide +kernel) (Nat.le_of_ble_eq_true rfl) rfl h
        have h := sp_onk (i := .iload 4) (by decide +kernel) rfl h
        have h := sp_onk (i := .iload_n 3) (by decide +kernel) rfl h
        rcases sp_icmp_ge (mi := 295) (pc := 52) (off := 8) (t := 60) (by decide +kernel) (by decide) rfl h with ⟨hc, h⟩ | ⟨hc, h⟩
        case inl => exact absurd hc (by decide +kernel)
        have h := sp_onk (i := .iload 4) (by decide +kernel) rfl h
        have h := sp_goto (mi := 295) (pc := 57) (off := 4) (t := 61) (by decide +kernel) (by decide) rfl h
        exact sp_iret (by decide +kernel) h
    · refine ite_t (Classical.not_not.mp hc) ?_
      have h := sp_iconst (n := 2) (v := 2) (by decide +kernel) (by decide +kernel) h
      have h := sp_goto (mi := 295) (pc := 30) (off := 17) (t := 47) (by decide +kernel) (by decide) rfl h
      have h := sp_istore (j := 4) (ls' := [.ref 147, .int p1, .int p2, .int 1, .int 2]) (by decide +kernel) (Nat.le_of_ble_eq_true rfl) rfl h
      have h := sp_onk (i := .iload 4) (by decide +kernel) rfl h
      have h := sp_onk (i := .iload_n 3) (by decide +kernel) rfl h
      rcases sp_icmp_ge (mi := 295) (pc := 52) (off := 8) (t := 60) (by decide +kernel) (by decide) rfl h with ⟨hc, h⟩ | ⟨hc, h⟩
      case inr => exact absurd (by decide +kernel) hc
      have h := sp_onk (i := .iload_n 3) (by decide +kernel) rfl h
      exact sp_iret (by decide +kernel) h
  · refine ite_f hc ?_
    have h := sp_iconst (n := 0) (v := 0) (by decide +kernel) (by decide +kernel) h
    have h := sp_goto (mi := 295) (pc := 10) (off := 4) (t := 14) (by decide +kernel) (by decide) rfl h
    have h := sp_istore_n (j := 3) (ls' := [.ref 147, .int p1, .int p2, .int 0, pm_dead]) (by decide +kernel) (Nat.le_of_ble_eq_true rfl) rfl h
    have h := sp_onk (i := .aload_n 0) (by decide +kernel) rfl h
    have h := sp_getK (jj := 53) (ci := 12) (n := 27) (b := 162) (by decide +kernel) (by decide +kernel) (by decide +kernel) (by decide +kernel) (by decide) hSw2 h
    have h := sp_bipush (n := 10) (v := 10) (by decide +kernel) (by decide +kernel) h
    have h := sp_onk (i := .iload_n 2) (by decide +kernel) rfl h
    have h := sp_onk (i := .imul) (by decide +kernel) rfl h
    have h := sp_onk (i := .iload_n 1) (by decide +kernel) rfl h
    have h := sp_onk (i := .iadd) (by decide +kernel) rfl h
    obtain ⟨hi, h⟩ := sp_iald (by decide +kernel) h
    refine ⟨hi, ?_⟩
    rcases sp_if_ne (mi := 295) (pc := 26) (off := 7) (t := 33) (by decide +kernel) (by decide) rfl h with ⟨hc, h⟩ | ⟨hc, h⟩
    · refine ite_f hc ?_
      have h := sp_onk (i := .aload_n 0) (by decide +kernel) rfl h
      have h := sp_onk (i := .iload_n 2) (by decide +kernel) rfl h
      have h := sp_onk (i := .iload_n 1) (by decide +kernel) rfl h
      obtain ⟨r7, w8, hc, h⟩ := sp_callV (jj := 349) (mj := 296) (n := 2) (v := .ref 147) (args := [.int p1, .int p2]) (ls' := [.ref 147, .int p2, .int p1]) (by decide +kernel) (by decide +kernel) rfl rfl rfl h
      refine ⟨r7, w8, hc, fun x9 er hSw8 => ?_⟩
      subst er
      have h : PS X k 295 39 [.ref 147, .int p1, .int p2, .int 0, pm_dead] [.int x9] w8 r w' := h
      rcases sp_if_ge (mi := 295) (pc := 39) (off := 7) (t := 46) (by decide +kernel) (by decide) rfl h with ⟨hc, h⟩ | ⟨hc, h⟩
      · refine ite_t hc ?_
        have h := sp_iconst (n := 0) (v := 0) (by decide +kernel) (by decide +kernel) h
        have h := sp_istore (j := 4) (ls' := [.ref 147, .int p1, .int p2, .int 0, .int 0]) (by decide +kernel) (Nat.le_of_ble_eq_true rfl) rfl h
        have h := sp_onk (i := .iload 4) (by decide +kernel) rfl h
        have h := sp_onk (i := .iload_n 3) (by decide +kernel) rfl h
        rcases sp_icmp_ge (mi := 295) (pc := 52) (off := 8) (t := 60) (by decide +kernel) (by decide) rfl h with ⟨hc, h⟩ | ⟨hc, h⟩
        case inr => exact absurd (by decide +kernel) hc
        have h := sp_onk (i := .iload_n 3) (by decide +kernel) rfl h
        exact sp_iret (by decide +kernel) h
      · refine ite_f hc ?_
        have h := sp_iconst (n := (-1)) (v := (-1)) (by decide +kernel) (by decide +kernel) h
        have h := sp_goto (mi := 295) (pc := 43) (off := 4) (t := 47) (by decide +kernel) (by decide) rfl h
        have h := sp_istore (j := 4) (ls' := [.ref 147, .int p1, .int p2, .int 0, .int (-1)]) (by decide +kernel) (Nat.le_of_ble_eq_true rfl) rfl h
        have h := sp_onk (i := .iload 4) (by decide +kernel) rfl h
        have h := sp_onk (i := .iload_n 3) (by decide +kernel) rfl h
        rcases sp_icmp_ge (mi := 295) (pc := 52) (off := 8) (t := 60) (by decide +kernel) (by decide) rfl h with ⟨hc, h⟩ | ⟨hc, h⟩
        case inl => exact absurd hc (by decide +kernel)
        have h := sp_onk (i := .iload 4) (by decide +kernel) rfl h
        have h := sp_goto (mi := 295) (pc := 57) (off := 4) (t := 61) (by decide +kernel) (by decide) rfl h
        exact sp_iret (by decide +kernel) h
    · refine ite_t (Classical.not_not.mp hc) ?_
      have h := sp_iconst (n := 2) (v := 2) (by decide +kernel) (by decide +kernel) h
      have h := sp_goto (mi := 295) (pc := 30) (off := 17) (t := 47) (by decide +kernel) (by decide) rfl h
      have h := sp_istore (j := 4) (ls' := [.ref 147, .int p1, .int p2, .int 0, .int 2]) (by decide +kernel) (Nat.le_of_ble_eq_true rfl) rfl h
      have h := sp_onk (i := .iload 4) (by decide +kernel) rfl h
      have h := sp_onk (i := .iload_n 3) (by decide +kernel) rfl h
      rcases sp_icmp_ge (mi := 295) (pc := 52) (off := 8) (t := 60) (by decide +kernel) (by decide) rfl h with ⟨hc, h⟩ | ⟨hc, h⟩
      case inr => exact absurd (by decide +kernel) hc
      have h := sp_onk (i := .iload_n 3) (by decide +kernel) rfl h
      exact sp_iret (by decide +kernel) h
set_option maxRecDepth 20000 in
set_option maxHeartbeats 2000000 in
theorem U296_0 {X : pm_X} {k : Nat} {w w' : pm_W} {r : Option Value} {p1 : Int32} {p2 : Int32} (hS : SK w) (h : PS X (k + 1) 296 0 [.ref 147, .int p1, .int p2] [] w r w') : aI w 161 ((10 * p1) + p2) ∧ (aI w 160 ((10 * p1) + p2) ∧ (aI w 162 ((10 * p1) + p2) ∧ (r = some (.int (((aG w 161 ((10 * p1) + p2)) - (aG w 160 ((10 * p1) + p2))) - (aG w 162 ((10 * p1) + p2)))) ∧ w' = w))) := by
  have h := sp_one (i := .aload_n 0) (by decide +kernel) rfl h
  have h := sp_getK (jj := 50) (ci := 12) (n := 26) (b := 161) (by decide +kernel) (by decide +kernel) (by decide +kernel) (by decide +kernel) (by decide) hS h
  have h := sp_bipush (n := 10) (v := 10) (by decide +kernel) (by decide +kernel) h
  have h := sp_onk (i := .iload_n 1) (by decide +kernel) rfl h
  have h := sp_onk (i := .imul) (by decide +kernel) rfl h
  have h := sp_onk (i := .iload_n 2) (by decide +kernel) rfl h
  have h := sp_onk (i := .iadd) (by decide +kernel) rfl h
  obtain ⟨hi, h⟩ := sp_iald (by decide +kernel) h
  refine ⟨hi, ?_⟩
  have h := sp_onk (i := .aload_n 0) (by decide +kernel) rfl h
  have h := sp_getK (jj := 47) (ci := 12) (n := 25) (b := 160) (by decide +kernel) (by decide +kernel) (by decide +kernel) (by decide +kernel) (by decide) hS h
  have h := sp_bipush (n := 10) (v := 10) (by decide +kernel) (by decide +kernel) h
  have h := sp_onk (i := .iload_n 1) (by decide +kernel) rfl h
  have h := sp_onk (i := .imul) (by decide +kernel) rfl h
  have h := sp_onk (i := .iload_n 2) (by decide +kernel) rfl h
  have h := sp_onk (i := .iadd) (by decide +kernel) rfl h
  obtain ⟨hi, h⟩ := sp_iald (by decide +kernel) h
  refine ⟨hi, ?_⟩
  have h := sp_onk (i := .isub) (by decide +kernel) rfl h
  have h := sp_onk (i := .aload_n 0) (by decide +kernel) rfl h
  have h := sp_getK (jj := 53) (ci := 12) (n := 27) (b := 162) (by decide +kernel) (by decide +kernel) (by decide +kernel) (by decide +kernel) (by decide) hS h
  have h := sp_bipush (n := 10) (v := 10) (by decide +kernel) (by decide +kernel) h
  have h := sp_onk (i := .iload_n 1) (by decide +kernel) rfl h
  have h := sp_onk (i := .imul) (by decide +kernel) rfl h
  have h := sp_onk (i := .iload_n 2) (by decide +kernel) rfl h
  have h := sp_onk (i := .iadd) (by decide +kernel) rfl h
  obtain ⟨hi, h⟩ := sp_iald (by decide +kernel) h
  refine ⟨hi, ?_⟩
  have h := sp_onk (i := .isub) (by decide +kernel) rfl h
  exact sp_iret (by decide +kernel) h
set_option maxRecDepth 20000 in
set_option maxHeartbeats 2000000 in
theorem U297_0 {X : pm_X} {k : Nat} {w w' : pm_W} {r : Option Value} {p1 : Int32} (hS : SK w) (h : PS X (k + 1) 297 0 [.ref 147, .int p1, pm_dead, pm_dead, pm_dead] [] w r w') : PS X k 297 4 [.ref 147, .int p1, .int 0, .int 0, pm_dead] [] w r w' := by
  have h := sp_iconst1 (n := 0) (v := 0) (by decide +kernel) (by decide +kernel) h
  have h := sp_istore_n (j := 2) (ls' := [.ref 147, .int p1, .int 0, pm_dead, pm_dead]) (by decide +kernel) (Nat.le_of_ble_eq_true rfl) rfl h
  have h := sp_iconst (n := 0) (v := 0) (by decide +kernel) (by decide +kernel) h
  have h := sp_istore_n (j := 3) (ls' := [.ref 147, .int p1, .int 0, .int 0, pm_dead]) (by decide +kernel) (Nat.le_of_ble_eq_true rfl) rfl h
  exact h
set_option maxRecDepth 20000 in
set_option maxHeartbeats 2000000 in
theorem U297_4 {X : pm_X} {k : Nat} {w w' : pm_W} {r : Option Value} {i1 : Int32} {i2 : Int32} {i3 : Int32} {u4 : Value} (hS : SK w) (h : PS X (k + 1) 297 4 [.ref 147, .int i1, .int i2, .int i3, u4] [] w r w') : aI w 148 i1 ∧ (if (aG w 148 i1) ≤ i3 then (r = some (.int i2) ∧ w' = w) else (PS X k 297 17 [.ref 147, .int i1, .int i2, .int i3, .int 0] [] w r w')) := by
  have h := sp_one (i := .iload_n 3) (by decide +kernel) rfl h
  have h := sp_onk (i := .aload_n 0) (by decide +kernel) rfl h
  have h := sp_getK (jj := 7) (ci := 12) (n := 0) (b := 148) (by decide +kernel) (by decide +kernel) (by decide +kernel) (by decide +kernel) (by decide) hS h
  have h := sp_onk (i := .iload_n 1) (by decide +kernel) rfl h
  obtain ⟨hi, h⟩ := sp_iald (by decide +kernel) h
  refine ⟨hi, ?_⟩
  rcases sp_icmp_ge (mi := 297) (pc := 11) (off := 60) (t := 71) (by decide +kernel) (by decide) rfl h with ⟨hc, h⟩ | ⟨hc, h⟩
  · refine ite_t hc ?_
    have h := sp_onk (i := .iload_n 2) (by decide +kernel) rfl h
    exact sp_iret (by decide +kernel) h
  · refine ite_f hc ?_
    have h := sp_iconst (n := 0) (v := 0) (by decide +kernel) (by decide +kernel) h
    have h := sp_istore (j := 4) (ls' := [.ref 147, .int i1, .int i2, .int i3, .int 0]) (by decide +kernel) (Nat.le_of_ble_eq_true rfl) rfl h
    exact h
set_option maxRecDepth 20000 in
set_option maxHeartbeats 2000000 in
theorem U297_17 {X : pm_X} {k : Nat} {w w' : pm_W} {r : Option Value} {i1 : Int32} {i2 : Int32} {i3 : Int32} {i4 : Int32} (hS : SK w) (h : PS X (k + 1) 297 17 [.ref 147, .int i1, .int i2, .int i3, .int i4] [] w r w') : aI w 148 i1 ∧ (if (aG w 148 i1) ≤ i4 then (PS X k 297 4 [.ref 147, .int i1, .int i2, .int (i3 + 1), .int i4] [] w r w') else (if i3 = i4 then (PS X k 297 17 [.ref 147, .int i1, .int (i2 + 0), .int i3, .int (i4 + 1)] [] w r w') else (∃ (r1 : Option Value) (w2 : pm_W), PS X k 296 0 [.ref 147, .int i3, .int i4] [] w r1 w2 ∧ (∀ x3 : Int32, r1 = some (.int x3) → SK w2 → (if 0 ≤ x3 then (PS X k 297 17 [.ref 147, .int i1, .int (i2 + 0), .int i3, .int (i4 + 1)] [] w2 r w') else (∃ (r4 : Option Value) (w5 : pm_W), PS X k 296 0 [.ref 147, .int i3, .int i4] [] w2 r4 w5 ∧ (∀ x6 : Int32, r4 = some (.int x6) → SK w5 → (PS X k 297 17 [.ref 147, .int i1, .int (i2 + (-x6)), .int i3, .int (i4 + 1)] [] w5 r w')))))))) := by
  have h := sp_one (i := .iload 4) (by decide +kernel) rfl h
  have h := sp_onk (i := .aload_n 0) (by decide +kernel) rfl h
  have h := sp_getK (jj := 7) (ci := 12) (n := 0) (b := 148) (by decide +kernel) (by decide +kernel) (by decide +kernel) (by decide +kernel) (by decide) hS h
  have h := sp_onk (i := .iload_n 1) (by decide +kernel) rfl h
  obtain ⟨hi, h⟩ := sp_iald (by decide +kernel) h
  refine ⟨hi, ?_⟩
  rcases sp_icmp_ge (mi := 297) (pc := 25) (off := 40) (t := 65) (by decide +kernel) (by decide) rfl h with ⟨hc, h⟩ | ⟨hc, h⟩
  · refine ite_t hc ?_
    have h := sp_iinc (j := 3) (n := 1) (v := 1) (ls' := [.ref 147, .int i1, .int i2, .int (i3 + 1), .int i4]) (by decide +kernel) rfl (by decide +kernel) rfl h
    have h := sp_goto (mi := 297) (pc := 68) (off := (-64)) (t := 4) (by decide +kernel) (by decide) rfl h
    exact h
  · refine ite_f hc ?_
    have h := sp_onk (i := .iload_n 2) (by decide +kernel) rfl h
    have h := sp_onk (i := .iload_n 3) (by decide +kernel) rfl h
    have h := sp_onk (i := .iload 4) (by decide +kernel) rfl h
    rcases sp_icmp_eq (mi := 297) (pc := 32) (off := 24) (t := 56) (by decide +kernel) (by decide) rfl h with ⟨hc, h⟩ | ⟨hc, h⟩
    · refine ite_t hc ?_
      have h := sp_iconst (n := 0) (v := 0) (by decide +kernel) (by decide +kernel) h
      have h := sp_onk (i := .iadd) (by decide +kernel) rfl h
      have h := sp_istore_n (j := 2) (ls' := [.ref 147, .int i1, .int (i2 + 0), .int i3, .int i4]) (by decide +kernel) (Nat.le_of_ble_eq_true rfl) rfl h
      have h := sp_iinc (j := 4) (n := 1) (v := 1) (ls' := [.ref 147, .int i1, .int (i2 + 0), .int i3, .int (i4 + 1)]) (by decide +kernel) rfl (by decide +kernel) rfl h
      have h := sp_goto (mi := 297) (pc := 62) (off := (-45)) (t := 17) (by decide +kernel) (by decide) rfl h
      exact h
    · refine ite_f hc ?_
      have h := sp_onk (i := .aload_n 0) (by decide +kernel) rfl h
      have h := sp_onk (i := .iload_n 3) (by decide +kernel) rfl h
      have h := sp_onk (i := .iload 4) (by decide +kernel) rfl h
      obtain ⟨r1, w2, hc, h⟩ := sp_callV (jj := 349) (mj := 296) (n := 2) (v := .ref 147) (args := [.int i4, .int i3]) (ls' := [.ref 147, .int i3, .int i4]) (by decide +kernel) (by decide +kernel) rfl rfl rfl h
      refine ⟨r1, w2, hc, fun x3 er hSw2 => ?_⟩
      subst er
      have h : PS X k 297 42 [.ref 147, .int i1, .int i2, .int i3, .int i4] [.int x3, .int i2] w2 r w' := h
      rcases sp_if_ge (mi := 297) (pc := 42) (off := 14) (t := 56) (by decide +kernel) (by decide) rfl h with ⟨hc, h⟩ | ⟨hc, h⟩
      · refine ite_t hc ?_
        have h := sp_iconst (n := 0) (v := 0) (by decide +kernel) (by decide +kernel) h
        have h := sp_onk (i := .iadd) (by decide +kernel) rfl h
        have h := sp_istore_n (j := 2) (ls' := [.ref 147, .int i1, .int (i2 + 0), .int i3, .int i4]) (by decide +kernel) (Nat.le_of_ble_eq_true rfl) rfl h
        have h := sp_iinc (j := 4) (n := 1) (v := 1) (ls' := [.ref 147, .int i1, .int (i2 + 0), .int i3, .int (i4 + 1)]) (by decide +kernel) rfl (by decide +kernel) rfl h
        have h := sp_goto (mi := 297) (pc := 62) (off := (-45)) (t := 17) (by decide +kernel) (by decide) rfl h
        exact h
      · refine ite_f hc ?_
        have h := sp_onk (i := .aload_n 0) (by decide +kernel) rfl h
        have h := sp_onk (i := .iload_n 3) (by decide +kernel) rfl h
        have h := sp_onk (i := .iload 4) (by decide +kernel) rfl h
        obtain ⟨r4, w5, hc, h⟩ := sp_callV (jj := 349) (mj := 296) (n := 2) (v := .ref 147) (args := [.int i4, .int i3]) (ls' := [.ref 147, .int i3, .int i4]) (by decide +kernel) (by decide +kernel) rfl rfl rfl h
        refine ⟨r4, w5, hc, fun x6 er hSw5 => ?_⟩
        subst er
        have h : PS X k 297 52 [.ref 147, .int i1, .int i2, .int i3, .int i4] [.int x6, .int i2] w5 r w' := h
        have h := sp_onk (i := .ineg) (by decide +kernel) rfl h
        have h := sp_goto (mi := 297) (pc := 53) (off := 4) (t := 57) (by decide +kernel) (by decide) rfl h
        have h := sp_onk (i := .iadd) (by decide +kernel) rfl h
        have h := sp_istore_n (j := 2) (ls' := [.ref 147, .int i1, .int (i2 + (-x6)), .int i3, .int i4]) (by decide +kernel) (Nat.le_of_ble_eq_true rfl) rfl h
        have h := sp_iinc (j := 4) (n := 1) (v := 1) (ls' := [.ref 147, .int i1, .int (i2 + (-x6)), .int i3, .int (i4 + 1)]) (by decide +kernel) rfl (by decide +kernel) rfl h
        have h := sp_goto (mi := 297) (pc := 62) (off := (-45)) (t := 17) (by decide +kernel) (by decide) rfl h
        exact h
