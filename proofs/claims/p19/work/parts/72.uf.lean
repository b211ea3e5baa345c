section
/-! ===== what pieces of methods leave (printed by us.py) ===== -/
set_option maxRecDepth 20000 in
set_option maxHeartbeats 2000000 in
theorem U269_0 {X : pm_X} {k : Nat} {w w' : pm_W} {r : Option Value} {p1 : Int32} {p2 : Int32} {p3 : Int32} (hS : SK w) (h : PS X (k + 1) 269 0 [.ref 147, .int p1, .int p2, .int p3, pm_dead, pm_dead] [] w r w') : PS X k 269 6 [.ref 147, .int p1, .int p2, .int p3, .int 1, .int 0] [] w r w' := by
  have h := sp_iconst1 (n := 1) (v := 1) (by decide +kernel) (by decide +kernel) h
  have h := sp_istore (j := 4) (ls' := [.ref 147, .int p1, .int p2, .int p3, .int 1, pm_dead]) (by decide +kernel) (Nat.le_of_ble_eq_true rfl) rfl h
  have h := sp_iconst (n := 0) (v := 0) (by decide +kernel) (by decide +kernel) h
  have h := sp_istore (j := 5) (ls' := [.ref 147, .int p1, .int p2, .int p3, .int 1, .int 0]) (by decide +kernel) (Nat.le_of_ble_eq_true rfl) rfl h
  exact h
set_option maxRecDepth 20000 in
set_option maxHeartbeats 2000000 in
theorem U269_6 {X : pm_X} {k : Nat} {w w' : pm_W} {r : Option Value} {i1 : Int32} {i2 : Int32} {i3 : Int32} {i4 : Int32} {i5 : Int32} (hS : SK w) (h : PS X (k + 1) 269 6 [.ref 147, .int i1, .int i2, .int i3, .int i4, .int i5] [] w r w') : if i2 ≤ i5 then (r = some (.int i4) ∧ w' = w) else (if i4 = 0 then (r = some (.int i4) ∧ w' = w) else (aI w 158 i5 ∧ (aI w 158 ((i5 + 1) - (i5 + 1) / i2 * i2) ∧ (∃ (r1 : Option Value) (w2 : pm_W), PS X k 231 0 [.ref 147, .int i1, .int (aG w 158 i5), .int (aG w 158 ((i5 + 1) - (i5 + 1) / i2 * i2)), pm_dead] [] w r1 w2 ∧ (∀ x3 : Int32, r1 = some (.int x3) → SK w2 → (if x3 < i3 then (PS X k 269 6 [.ref 147, .int i1, .int i2, .int i3, .int 0, .int (i5 + 1)] [] w2 r w') else (PS X k 269 6 [.ref 147, .int i1, .int i2, .int i3, .int 1, .int (i5 + 1)] [] w2 r w'))))))) := by
  have h := sp_one (i := .iload 5) (by decide +kernel) rfl h
  have h := sp_onk (i := .iload_n 2) (by decide +kernel) rfl h
  rcases sp_icmp_ge (mi := 269) (pc := 9) (off := 48) (t := 57) (by decide +kernel) (by decide) rfl h with ⟨hc, h⟩ | ⟨hc, h⟩
  · refine ite_t hc ?_
    have h := sp_onk (i := .iload 4) (by decide +kernel) rfl h
    exact sp_iret (by decide +kernel) h
  · refine ite_f hc ?_
    have h := sp_onk (i := .iload 4) (by decide +kernel) rfl h
    rcases sp_if_eq (mi := 269) (pc := 14) (off := 43) (t := 57) (by decide +kernel) (by decide) rfl h with ⟨hc, h⟩ | ⟨hc, h⟩
    · refine ite_t hc ?_
      have h := sp_onk (i := .iload 4) (by decide +kernel) rfl h
      exact sp_iret (by decide +kernel) h
    · refine ite_f hc ?_
      have h := sp_onk (i := .aload_n 0) (by decide +kernel) rfl h
      have h := sp_onk (i := .iload_n 1) (by decide +kernel) rfl h
      have h := sp_onk (i := .aload_n 0) (by decide +kernel) rfl h
      have h := sp_getK (jj := 41) (ci := 12) (n := 21) (b := 158) (by decide +kernel) (by decide +kernel) (by decide +kernel) (by decide +kernel) (by decide) hS h
      have h := sp_onk (i := .iload 5) (by decide +kernel) rfl h
      obtain ⟨hi, h⟩ := sp_iald (by decide +kernel) h
      refine ⟨hi, ?_⟩
      have h := sp_onk (i := .aload_n 0) (by decide +kernel) rfl h
      have h := sp_getK (jj := 41) (ci := 12) (n := 21) (b := 158) (by decide +kernel) (by decide +kernel) (by decide +kernel) (by decide +kernel) (by decide) hS h
      have h := sp_onk (i := .iload 5) (by decide +kernel) rfl h
      have h := sp_iconst (n := 1) (v := 1) (by decide +kernel) (by decide +kernel) h
      have h := sp_onk (i := .iadd) (by decide +kernel) rfl h
      have h := sp_onk (i := .iload_n 2) (by decide +kernel) rfl h
      have h := sp_irem (by decide +kernel) h
      obtain ⟨hi, h⟩ := sp_iald (by decide +kernel) h
      refine ⟨hi, ?_⟩
      obtain ⟨r1, w2, hc, h⟩ := sp_callV (jj := 199) (mj := 231) (n := 3) (v := .ref 147) (args := [.int (aG w 158 ((i5 + 1) - (i5 + 1) / i2 * i2)), .int (aG w 158 i5), .int i1]) (ls' := [.ref 147, .int i1, .int (aG w 158 i5), .int (aG w 158 ((i5 + 1) - (i5 + 1) / i2 * i2)), pm_dead]) (by decide +kernel) (by decide +kernel) rfl rfl rfl h
      refine ⟨r1, w2, hc, fun x3 er hSw2 => ?_⟩
      subst er
      have h : PS X k 269 40 [.ref 147, .int i1, .int i2, .int i3, .int i4, .int i5] [.int x3] w2 r w' := h
      have h := sp_onk (i := .iload_n 3) (by decide +kernel) rfl h
      rcases sp_icmp_lt (mi := 269) (pc := 41) (off := 7) (t := 48) (by decide +kernel) (by decide) rfl h with ⟨hc, h⟩ | ⟨hc, h⟩
      · refine ite_t hc ?_
        have h := sp_iconst (n := 0) (v := 0) (by decide +kernel) (by decide +kernel) h
        have h := sp_istore (j := 4) (ls' := [.ref 147, .int i1, .int i2, .int i3, .int 0, .int i5]) (by decide +kernel) (Nat.le_of_ble_eq_true rfl) rfl h
        have h := sp_iinc (j := 5) (n := 1) (v := 1) (ls' := [.ref 147, .int i1, .int i2, .int i3, .int 0, .int (i5 + 1)]) (by decide +kernel) rfl (by decide +kernel) rfl h
        have h := sp_goto (mi := 269) (pc := 54) (off := (-48)) (t := 6) (by decide +kernel) (by decide) rfl h
        exact h
      · refine ite_f hc ?_
        have h := sp_iconst (n := 1) (v := 1) (by decide +kernel) (by decide +kernel) h
        have h := sp_goto (mi := 269) (pc := 45) (off := 4) (t := 49) (by decide +kernel) (by decide) rfl h
        have h := sp_istore (j := 4) (ls' := [.ref 147, .int i1, .int i2, .int i3, .int 1, .int i5]) (by decide +kernel) (Nat.le_of_ble_eq_true rfl) rfl h
        have h := sp_iinc (j := 5) (n := 1) (v := 1) (ls' := [.ref 147, .int i1, .int i2, .int i3, .int 1, .int (i5 + 1)]) (by decide +kernel) rfl (by decide +kernel) rfl h
        have h := sp_goto (mi := 269) (pc := 54) (off := (-48)) (t := 6) (by decide +kernel) (by decide) rfl h
        exact h
end
section
/-! ===== what pieces of methods leave (printed by us.py) ===== -/
set_option maxRecDepth 20000 in
set_option maxHeartbeats 2000000 in
theorem U265_0 {X : pm_X} {k : Nat} {w w' : pm_W} {r : Option Value} {p1 : Int32} {p2 : Int32} {p3 : Int32} {p4 : Int32} (hS : SK w) (h : PS X (k + 1) 265 0 [.ref 147, .int p1, .int p2, .int p3, .int p4] [] w r w') : ∃ (r1 : Option Value) (w2 : pm_W), PS X k 246 0 [.ref 147, .int p1, .int p2, .int p3] [] w r1 w2 ∧ (∀ x3 : Int32, r1 = some (.int x3) → SK w2 → (if x3 = 0 then (r = some (.int 0) ∧ w' = w2) else (∃ (r4 : Option Value) (w5 : pm_W), PS X k 217 0 [.int 0, .int p1] [] w2 r4 w5 ∧ (∀ x6 : Int32, r4 = some (.int x6) → SK w5 → (∃ (r7 : Option Value) (w8 : pm_W), PS X k 223 0 [.ref 147, .int x6, .int p4] [] w5 r7 w8 ∧ (∀ x9 : Int32, r7 = some (.int x9) → SK w8 → (if x9 = 0 then (r = some (.int 0) ∧ w' = w8) else (r = some (.int 1) ∧ w' = w8)))))))) := by
  have h := sp_one (i := .aload_n 0) (by decide +kernel) rfl h
  have h := sp_onk (i := .iload_n 1) (by decide +kernel) rfl h
  have h := sp_onk (i := .iload_n 2) (by decide +kernel) rfl h
  have h := sp_onk (i := .iload_n 3) (by decide +kernel) rfl h
  obtain ⟨r1, w2, hc, h⟩ := sp_callV (jj := 232) (mj := 246) (n := 3) (v := .ref 147) (args := [.int p3, .int p2, .int p1]) (ls' := [.ref 147, .int p1, .int p2, .int p3]) (by decide +kernel) (by decide +kernel) rfl rfl rfl h
  refine ⟨r1, w2, hc, fun x3 er hSw2 => ?_⟩
  subst er
  have h : PS X k 265 7 [.ref 147, .int p1, .int p2, .int p3, .int p4] [.int x3] w2 r w' := h
  rcases sp_if_eq (mi := 265) (pc := 7) (off := 21) (t := 28) (by decide +kernel) (by decide) rfl h with ⟨hc, h⟩ | ⟨hc, h⟩
  · refine ite_t hc ?_
    have h := sp_iconst (n := 0) (v := 0) (by decide +kernel) (by decide +kernel) h
    exact sp_iret (by decide +kernel) h
  · refine ite_f hc ?_
    have h := sp_onk (i := .aload_n 0) (by decide +kernel) rfl h
    have h := sp_iconst (n := 0) (v := 0) (by decide +kernel) (by decide +kernel) h
    have h := sp_onk (i := .iload_n 1) (by decide +kernel) rfl h
    obtain ⟨r4, w5, hc, h⟩ := sp_callS (jj := 163) (mj := 217) (n := 2) (args := [.int p1, .int 0]) (ls' := [.int 0, .int p1]) (by decide +kernel) (by decide +kernel) (by decide +kernel) rfl rfl rfl h
    refine ⟨r4, w5, hc, fun x6 er hSw5 => ?_⟩
    subst er
    have h : PS X k 265 16 [.ref 147, .int p1, .int p2, .int p3, .int p4] [.int x6, .ref 147] w5 r w' := h
    have h := sp_onk (i := .iload 4) (by decide +kernel) rfl h
    obtain ⟨r7, w8, hc, h⟩ := sp_callV (jj := 169) (mj := 223) (n := 2) (v := .ref 147) (args := [.int p4, .int x6]) (ls' := [.ref 147, .int x6, .int p4]) (by decide +kernel) (by decide +kernel) rfl rfl rfl h
    refine ⟨r7, w8, hc, fun x9 er hSw8 => ?_⟩
    subst er
    have h : PS X k 265 21 [.ref 147, .int p1, .int p2, .int p3, .int p4] [.int x9] w8 r w' := h
    rcases sp_if_eq (mi := 265) (pc := 21) (off := 7) (t := 28) (by decide +kernel) (by decide) rfl h with ⟨hc, h⟩ | ⟨hc, h⟩
    · refine ite_t hc ?_
      have h := sp_iconst (n := 0) (v := 0) (by decide +kernel) (by decide +kernel) h
      exact sp_iret (by decide +kernel) h
    · refine ite_f hc ?_
      have h := sp_iconst (n := 1) (v := 1) (by decide +kernel) (by decide +kernel) h
      have h := sp_goto (mi := 265) (pc := 25) (off := 4) (t := 29) (by decide +kernel) (by decide) rfl h
      exact sp_iret (by decide +kernel) h
end
