/-! ===== what pieces of methods leave (printed by us.py) ===== -/
set_option maxRecDepth 20000 in
set_option maxHeartbeats 2000000 in
theorem U140_0 {X : pm_X} {k : Nat} {w w' : pm_W} {r : Option Value} {p1 : Int32} {p2 : Int32} {p3 : Int32} {p4 : Int32} (hS : SK w) (h : PS X (k + 1) 140 0 [.ref 0, .int p1, .int p2, .int p3, .int p4, pm_dead, pm_dead] [] w r w') : ∃ (r1 : Option Value) (w2 : pm_W), PS X k 141 0 [.ref 0, .int p1, .int p2, .int p3, .int p4] [] w r1 w2 ∧ (∀ x3 : Int32, r1 = some (.int x3) → SK w2 → (if x3 = 0 then (r = some (.int (-1)) ∧ w' = w2) else (∃ (r4 : Option Value) (w5 : pm_W), PS X k 65 0 [.ref (gR w2 33 0), .int p4, .int 1] [] w2 r4 w5 ∧ (∀ x6 : Int32, r4 = some (.int x6) → SK w5 → (∃ (r7 : Option Value) (w8 : pm_W), PS X k 65 0 [.ref (gR w2 33 0), .int p4, .int 2] [] w5 r7 w8 ∧ (∀ x9 : Int32, r7 = some (.int x9) → SK w8 → (∃ (r10 : Option Value) (w11 : pm_W), PS X k 142 0 [.ref 33, .int x6, .int x9, pm_dead, pm_dead] [] w8 r10 w11 ∧ (∀ x12 : Int32, r10 = some (.int x12) → SK w11 → (∃ (r13 : Option Value) (w14 : pm_W), PS X k 65 0 [.ref (gR w2 33 0), .int p4, .int 0] [] w11 r13 w14 ∧ (∀ x15 : Int32, r13 = some (.int x15) → SK w14 → (∃ (r16 : Option Value) (w17 : pm_W), PS X k 89 0 [.int x12, .int x15] [] w14 r16 w17 ∧ (∀ x18 : Int32, r16 = some (.int x18) → SK w17 → (if x18 = 0 then (r = some (.int x12) ∧ w' = w17) else (r = some (.int (-1)) ∧ w' = w17)))))))))))))) := by
  have h := sp_one (i := .aload_n 0) (by decide +kernel) rfl h
  have h := sp_onk (i := .iload_n 1) (by decide +kernel) rfl h
  have h := sp_onk (i := .iload_n 2) (by decide +kernel) rfl h
  have h := sp_onk (i := .iload_n 3) (by decide +kernel) rfl h
  have h := sp_onk (i := .iload 4) (by decide +kernel) rfl h
  obtain ⟨r1, w2, hc, h⟩ := sp_callV (jj := 284) (mj := 141) (n := 4) (v := .ref 0) (args := [.int p4, .int p3, .int p2, .int p1]) (ls' := [.ref 0, .int p1, .int p2, .int p3, .int p4]) (by decide +kernel) (by decide +kernel) rfl rfl rfl h
  refine ⟨r1, w2, hc, fun x3 er hSw2 => ?_⟩
  subst er
  have h : PS X k 140 9 [.ref 0, .int p1, .int p2, .int p3, .int p4, pm_dead, pm_dead] [.int x3] w2 r w' := h
  rcases sp_if_ne (mi := 140) (pc := 9) (off := 5) (t := 14) (by decide +kernel) (by decide) rfl h with ⟨hc, h⟩ | ⟨hc, h⟩
  · refine ite_f hc ?_
    have h := sp_onk (i := .aload_n 0) (by decide +kernel) rfl h
    have h := sp_getK (jj := 34) (ci := 11) (n := 4) (b := 33) (by decide +kernel) (by decide +kernel) (by decide +kernel) (by decide +kernel) (by decide) hSw2 h
    have h := sp_getR (jj := 287) (ci := 7) (n := 0) (by decide +kernel) (by decide +kernel) (by decide +kernel) hSw2 h
    have h := (sp_astore (j := 5) (ls' := [.ref 0, .int p1, .int p2, .int p3, .int p4, .ref (gR w2 33 0), pm_dead]) (by decide +kernel) rfl h).2
    have h := sp_onk (i := .aload_n 0) (by decide +kernel) rfl h
    have h := sp_getK (jj := 34) (ci := 11) (n := 4) (b := 33) (by decide +kernel) (by decide +kernel) (by decide +kernel) (by decide +kernel) (by decide) hSw2 h
    have h := sp_onk (i := .aload 5) (by decide +kernel) rfl h
    have h := sp_onk (i := .iload 4) (by decide +kernel) rfl h
    have h := sp_iconst (n := 1) (v := 1) (by decide +kernel) (by decide +kernel) h
    obtain ⟨r4, w5, hc, h⟩ := sp_callV (jj := 145) (mj := 65) (n := 2) (v := .ref (gR w2 33 0)) (args := [.int 1, .int p4]) (ls' := [.ref (gR w2 33 0), .int p4, .int 1]) (by decide +kernel) (by decide +kernel) rfl rfl rfl h
    refine ⟨r4, w5, hc, fun x6 er hSw5 => ?_⟩
    subst er
    have h : PS X k 140 35 [.ref 0, .int p1, .int p2, .int p3, .int p4, .ref (gR w2 33 0), pm_dead] [.int x6, .ref 33] w5 r w' := h
    have h := sp_onk (i := .aload 5) (by decide +kernel) rfl h
    have h := sp_onk (i := .iload 4) (by decide +kernel) rfl h
    have h := sp_iconst (n := 2) (v := 2) (by decide +kernel) (by decide +kernel) h
    obtain ⟨r7, w8, hc, h⟩ := sp_callV (jj := 145) (mj := 65) (n := 2) (v := .ref (gR w2 33 0)) (args := [.int 2, .int p4]) (ls' := [.ref (gR w2 33 0), .int p4, .int 2]) (by decide +kernel) (by decide +kernel) rfl rfl rfl h
    refine ⟨r7, w8, hc, fun x9 er hSw8 => ?_⟩
    subst er
    have h : PS X k 140 43 [.ref 0, .int p1, .int p2, .int p3, .int p4, .ref (gR w2 33 0), pm_dead] [.int x9, .int x6, .ref 33] w8 r w' := h
    obtain ⟨r10, w11, hc, h⟩ := sp_callV (jj := 291) (mj := 142) (n := 2) (v := .ref 33) (args := [.int x9, .int x6]) (ls' := [.ref 33, .int x6, .int x9, pm_dead, pm_dead]) (by decide +kernel) (by decide +kernel) rfl rfl rfl h
    refine ⟨r10, w11, hc, fun x12 er hSw11 => ?_⟩
    subst er
    have h : PS X k 140 46 [.ref 0, .int p1, .int p2, .int p3, .int p4, .ref (gR w2 33 0), pm_dead] [.int x12] w11 r w' := h
    have h := sp_istore (j := 6) (ls' := [.ref 0, .int p1, .int p2, .int p3, .int p4, .ref (gR w2 33 0), .int x12]) (by decide +kernel) (Nat.le_of_ble_eq_true rfl) rfl h
    have h := sp_onk (i := .iload 6) (by decide +kernel) rfl h
    have h := sp_onk (i := .aload 5) (by decide +kernel) rfl h
    have h := sp_onk (i := .iload 4) (by decide +kernel) rfl h
    have h := sp_iconst (n := 0) (v := 0) (by decide +kernel) (by decide +kernel) h
    obtain ⟨r13, w14, hc, h⟩ := sp_callV (jj := 145) (mj := 65) (n := 2) (v := .ref (gR w2 33 0)) (args := [.int 0, .int p4]) (ls' := [.ref (gR w2 33 0), .int p4, .int 0]) (by decide +kernel) (by decide +kernel) rfl rfl rfl h
    refine ⟨r13, w14, hc, fun x15 er hSw14 => ?_⟩
    subst er
    have h : PS X k 140 58 [.ref 0, .int p1, .int p2, .int p3, .int p4, .ref (gR w2 33 0), .int x12] [.int x15, .int x12] w14 r w' := h
    obtain ⟨r16, w17, hc, h⟩ := sp_callS (jj := 294) (mj := 89) (n := 2) (args := [.int x15, .int x12]) (ls' := [.int x12, .int x15]) (by decide +kernel) (by decide +kernel) (by decide +kernel) rfl rfl rfl h
    refine ⟨r16, w17, hc, fun x18 er hSw17 => ?_⟩
    subst er
    have h : PS X k 140 61 [.ref 0, .int p1, .int p2, .int p3, .int p4, .ref (gR w2 33 0), .int x12] [.int x18] w17 r w' := h
    rcases sp_if_eq (mi := 140) (pc := 61) (off := 7) (t := 68) (by decide +kernel) (by decide) rfl h with ⟨hc, h⟩ | ⟨hc, h⟩
    · refine ite_t hc ?_
      have h := sp_onk (i := .iload 6) (by decide +kernel) rfl h
      exact sp_iret (by decide +kernel) h
    · refine ite_f hc ?_
      have h := sp_iconst (n := (-1)) (v := (-1)) (by decide +kernel) (by decide +kernel) h
      have h := sp_goto (mi := 140) (pc := 65) (off := 5) (t := 70) (by decide +kernel) (by decide) rfl h
      exact sp_iret (by decide +kernel) h
  · refine ite_t (Classical.not_not.mp hc) ?_
    have h := sp_iconst (n := (-1)) (v := (-1)) (by decide +kernel) (by decide +kernel) h
    exact sp_iret (by decide +kernel) h
set_option maxRecDepth 20000 in
set_option maxHeartbeats 2000000 in
theorem U141_0 {X : pm_X} {k : Nat} {w w' : pm_W} {r : Option Value} {p1 : Int32} {p2 : Int32} {p3 : Int32} {p4 : Int32} (hS : SK w) (h : PS X (k + 1) 141 0 [.ref 0, .int p1, .int p2, .int p3, .int p4] [] w r w') : ∃ (r1 : Option Value) (w2 : pm_W), PS X k 98 0 [.ref 0, .int p1, .int p2, .int p3, pm_dead, pm_dead, pm_dead] [] w r1 w2 ∧ (∀ x3 : Int32, r1 = some (.int x3) → SK w2 → (if x3 = 0 then (r = some (.int 0) ∧ w' = w2) else (∃ (r4 : Option Value) (w5 : pm_W), PS X k 64 0 [.ref (gR w2 33 0), .int p4] [] w2 r4 w5 ∧ (∀ x6 : Int32, r4 = some (.int x6) → SK w5 → (if x6 = 0 then (r = some (.int 0) ∧ w' = w5) else (r = some (.int 1) ∧ w' = w5)))))) := by
  have h := sp_one (i := .aload_n 0) (by decide +kernel) rfl h
  have h := sp_onk (i := .iload_n 1) (by decide +kernel) rfl h
  have h := sp_onk (i := .iload_n 2) (by decide +kernel) rfl h
  have h := sp_onk (i := .iload_n 3) (by decide +kernel) rfl h
  obtain ⟨r1, w2, hc, h⟩ := sp_callV (jj := 201) (mj := 98) (n := 3) (v := .ref 0) (args := [.int p3, .int p2, .int p1]) (ls' := [.ref 0, .int p1, .int p2, .int p3, pm_dead, pm_dead, pm_dead]) (by decide +kernel) (by decide +kernel) rfl rfl rfl h
  refine ⟨r1, w2, hc, fun x3 er hSw2 => ?_⟩
  subst er
  have h : PS X k 141 7 [.ref 0, .int p1, .int p2, .int p3, .int p4] [.int x3] w2 r w' := h
  rcases sp_if_eq (mi := 141) (pc := 7) (off := 22) (t := 29) (by decide +kernel) (by decide) rfl h with ⟨hc, h⟩ | ⟨hc, h⟩
  · refine ite_t hc ?_
    have h := sp_iconst (n := 0) (v := 0) (by decide +kernel) (by decide +kernel) h
    exact sp_iret (by decide +kernel) h
  · refine ite_f hc ?_
    have h := sp_onk (i := .aload_n 0) (by decide +kernel) rfl h
    have h := sp_getK (jj := 34) (ci := 11) (n := 4) (b := 33) (by decide +kernel) (by decide +kernel) (by decide +kernel) (by decide +kernel) (by decide) hSw2 h
    have h := sp_getR (jj := 287) (ci := 7) (n := 0) (by decide +kernel) (by decide +kernel) (by decide +kernel) hSw2 h
    have h := sp_onk (i := .iload 4) (by decide +kernel) rfl h
    obtain ⟨r4, w5, hc, h⟩ := sp_callV (jj := 142) (mj := 64) (n := 1) (v := .ref (gR w2 33 0)) (args := [.int p4]) (ls' := [.ref (gR w2 33 0), .int p4]) (by decide +kernel) (by decide +kernel) rfl rfl rfl h
    refine ⟨r4, w5, hc, fun x6 er hSw5 => ?_⟩
    subst er
    have h : PS X k 141 22 [.ref 0, .int p1, .int p2, .int p3, .int p4] [.int x6] w5 r w' := h
    rcases sp_if_eq (mi := 141) (pc := 22) (off := 7) (t := 29) (by decide +kernel) (by decide) rfl h with ⟨hc, h⟩ | ⟨hc, h⟩
    · refine ite_t hc ?_
      have h := sp_iconst (n := 0) (v := 0) (by decide +kernel) (by decide +kernel) h
      exact sp_iret (by decide +kernel) h
    · refine ite_f hc ?_
      have h := sp_iconst (n := 1) (v := 1) (by decide +kernel) (by decide +kernel) h
      have h := sp_goto (mi := 141) (pc := 26) (off := 4) (t := 30) (by decide +kernel) (by decide) rfl h
      exact sp_iret (by decide +kernel) h
set_option maxRecDepth 20000 in
set_option maxHeartbeats 2000000 in
theorem U142_0 {X : pm_X} {k : Nat} {w w' : pm_W} {r : Option Value} {a : Nat} {p1 : Int32} {p2 : Int32} (hS : SK w) (h : PS X (k + 1) 142 0 [.ref a, .int p1, .int p2, pm_dead, pm_dead] [] w r w') : PS X k 142 7 [.ref a, .int p1, .int p2, .int (1 <<< (p1 &&& 31)), .int 0] [] w r w' := by
  have h := sp_iconst1 (n := 1) (v := 1) (by decide +kernel) (by decide +kernel) h
  have h := sp_onk (i := .iload_n 1) (by decide +kernel) rfl h
  have h := sp_onk (i := .ishl) (by decide +kernel) rfl h
  have h := sp_istore_n (j := 3) (ls' := [.ref a, .int p1, .int p2, .int (1 <<< (p1 &&& 31)), pm_dead]) (by decide +kernel) (Nat.le_of_ble_eq_true rfl) rfl h
  have h := sp_iconst (n := 0) (v := 0) (by decide +kernel) (by decide +kernel) h
  have h := sp_istore (j := 4) (ls' := [.ref a, .int p1, .int p2, .int (1 <<< (p1 &&& 31)), .int 0]) (by decide +kernel) (Nat.le_of_ble_eq_true rfl) rfl h
  exact h
set_option maxRecDepth 20000 in
set_option maxHeartbeats 2000000 in
theorem U142_7 {X : pm_X} {k : Nat} {w w' : pm_W} {r : Option Value} {o0 : Nat} {i1 : Int32} {i2 : Int32} {i3 : Int32} {i4 : Int32} (hS : SK w) (h : PS X (k + 1) 142 7 [.ref o0, .int i1, .int i2, .int i3, .int i4] [] w r w') : if (gI w (gR w o0 0) 0) ≤ i4 then (r = some (.int i3) ∧ w' = w) else (∃ (r1 : Option Value) (w2 : pm_W), PS X k 143 0 [.ref o0, .int i3, .int i2, pm_dead, pm_dead] [] w r1 w2 ∧ (∀ x3 : Int32, r1 = some (.int x3) → SK w2 → (PS X k 142 7 [.ref o0, .int i1, .int i2, .int (i3 ||| x3), .int (i4 + 1)] [] w2 r w'))) := by
  have h := sp_one (i := .iload 4) (by decide +kernel) rfl h
  have h := sp_onk (i := .aload_n 0) (by decide +kernel) rfl h
  have h := sp_getR (jj := 12) (ci := 7) (n := 0) (by decide +kernel) (by decide +kernel) (by decide +kernel) hS h
  have h := sp_getI (jj := 121) (ci := 9) (n := 0) (by decide +kernel) (by decide +kernel) (by decide +kernel) hS h
  rcases sp_icmp_ge (mi := 142) (pc := 16) (off := 18) (t := 34) (by decide +kernel) (by decide) rfl h with ⟨hc, h⟩ | ⟨hc, h⟩
  · refine ite_t hc ?_
    have h := sp_onk (i := .iload_n 3) (by decide +kernel) rfl h
    exact sp_iret (by decide +kernel) h
  · refine ite_f hc ?_
    have h := sp_onk (i := .iload_n 3) (by decide +kernel) rfl h
    have h := sp_onk (i := .aload_n 0) (by decide +kernel) rfl h
    have h := sp_onk (i := .iload_n 3) (by decide +kernel) rfl h
    have h := sp_onk (i := .iload_n 2) (by decide +kernel) rfl h
    obtain ⟨r1, w2, hc, h⟩ := sp_callV (jj := 139) (mj := 143) (n := 2) (v := .ref o0) (args := [.int i2, .int i3]) (ls' := [.ref o0, .int i3, .int i2, pm_dead, pm_dead]) (by decide +kernel) (by decide +kernel) rfl rfl rfl h
    refine ⟨r1, w2, hc, fun x3 er hSw2 => ?_⟩
    subst er
    have h : PS X k 142 26 [.ref o0, .int i1, .int i2, .int i3, .int i4] [.int x3, .int i3] w2 r w' := h
    have h := sp_onk (i := .ior) (by decide +kernel) rfl h
    have h := sp_istore_n (j := 3) (ls' := [.ref o0, .int i1, .int i2, .int (i3 ||| x3), .int i4]) (by decide +kernel) (Nat.le_of_ble_eq_true rfl) rfl h
    have h := sp_iinc (j := 4) (n := 1) (v := 1) (ls' := [.ref o0, .int i1, .int i2, .int (i3 ||| x3), .int (i4 + 1)]) (by decide +kernel) rfl (by decide +kernel) rfl h
    have h := sp_goto (mi := 142) (pc := 31) (off := (-24)) (t := 7) (by decide +kernel) (by decide) rfl h
    exact h
set_option maxRecDepth 20000 in
set_option maxHeartbeats 2000000 in
theorem U143_0 {X : pm_X} {k : Nat} {w w' : pm_W} {r : Option Value} {a : Nat} {p1 : Int32} {p2 : Int32} (hS : SK w) (h : PS X (k + 1) 143 0 [.ref a, .int p1, .int p2, pm_dead, pm_dead] [] w r w') : PS X k 143 5 [.ref a, .int p1, .int p2, .int 0, .int 0] [] w r w' := by
  have h := sp_iconst1 (n := 0) (v := 0) (by decide +kernel) (by decide +kernel) h
  have h := sp_istore_n (j := 3) (ls' := [.ref a, .int p1, .int p2, .int 0, pm_dead]) (by decide +kernel) (Nat.le_of_ble_eq_true rfl) rfl h
  have h := sp_iconst (n := 0) (v := 0) (by decide +kernel) (by decide +kernel) h
  have h := sp_istore (j := 4) (ls' := [.ref a, .int p1, .int p2, .int 0, .int 0]) (by decide +kernel) (Nat.le_of_ble_eq_true rfl) rfl h
  exact h
set_option maxRecDepth 20000 in
set_option maxHeartbeats 2000000 in
theorem U143_5 {X : pm_X} {k : Nat} {w w' : pm_W} {r : Option Value} {o0 : Nat} {i1 : Int32} {i2 : Int32} {i3 : Int32} {i4 : Int32} (hS : SK w) (h : PS X (k + 1) 143 5 [.ref o0, .int i1, .int i2, .int i3, .int i4] [] w r w') : if (gI w (gR w o0 0) 0) ≤ i4 then (r = some (.int i3) ∧ w' = w) else (∃ (r1 : Option Value) (w2 : pm_W), PS X k 89 0 [.int i1, .int i4] [] w r1 w2 ∧ (∀ x3 : Int32, r1 = some (.int x3) → SK w2 → (if x3 = 0 then (PS X k 143 5 [.ref o0, .int i1, .int i2, .int (i3 ||| 0), .int (i4 + 1)] [] w2 r w') else (∃ (r4 : Option Value) (w5 : pm_W), PS X k 144 0 [.ref o0, .int i4, .int i2, pm_dead, pm_dead] [] w2 r4 w5 ∧ (∀ x6 : Int32, r4 = some (.int x6) → SK w5 → (PS X k 143 5 [.ref o0, .int i1, .int i2, .int (i3 ||| x6), .int (i4 + 1)] [] w5 r w')))))) := by
  have h := sp_one (i := .iload 4) (by decide +kernel) rfl h
  have h := sp_onk (i := .aload_n 0) (by decide +kernel) rfl h
  have h := sp_getR (jj := 12) (ci := 7) (n := 0) (by decide +kernel) (by decide +kernel) (by decide +kernel) hS h
  have h := sp_getI (jj := 121) (ci := 9) (n := 0) (by decide +kernel) (by decide +kernel) (by decide +kernel) hS h
  rcases sp_icmp_ge (mi := 143) (pc := 14) (off := 32) (t := 46) (by decide +kernel) (by decide) rfl h with ⟨hc, h⟩ | ⟨hc, h⟩
  · refine ite_t hc ?_
    have h := sp_onk (i := .iload_n 3) (by decide +kernel) rfl h
    exact sp_iret (by decide +kernel) h
  · refine ite_f hc ?_
    have h := sp_onk (i := .iload_n 3) (by decide +kernel) rfl h
    have h := sp_onk (i := .iload_n 1) (by decide +kernel) rfl h
    have h := sp_onk (i := .iload 4) (by decide +kernel) rfl h
    obtain ⟨r1, w2, hc, h⟩ := sp_callS (jj := 110) (mj := 89) (n := 2) (args := [.int i4, .int i1]) (ls' := [.int i1, .int i4]) (by decide +kernel) (by decide +kernel) (by decide +kernel) rfl rfl rfl h
    refine ⟨r1, w2, hc, fun x3 er hSw2 => ?_⟩
    subst er
    have h : PS X k 143 24 [.ref o0, .int i1, .int i2, .int i3, .int i4] [.int x3, .int i3] w2 r w' := h
    rcases sp_if_eq (mi := 143) (pc := 24) (off := 13) (t := 37) (by decide +kernel) (by decide) rfl h with ⟨hc, h⟩ | ⟨hc, h⟩
    · refine ite_t hc ?_
      have h := sp_iconst (n := 0) (v := 0) (by decide +kernel) (by decide +kernel) h
      have h := sp_onk (i := .ior) (by decide +kernel) rfl h
      have h := sp_istore_n (j := 3) (ls' := [.ref o0, .int i1, .int i2, .int (i3 ||| 0), .int i4]) (by decide +kernel) (Nat.le_of_ble_eq_true rfl) rfl h
      have h := sp_iinc (j := 4) (n := 1) (v := 1) (ls' := [.ref o0, .int i1, .int i2, .int (i3 ||| 0), .int (i4 + 1)]) (by decide +kernel) rfl (by decide +kernel) rfl h
      have h := sp_goto (mi := 143) (pc := 43) (off := (-38)) (t := 5) (by decide +kernel) (by decide) rfl h
      exact h
    · refine ite_f hc ?_
      have h := sp_onk (i := .aload_n 0) (by decide +kernel) rfl h
      have h := sp_onk (i := .iload 4) (by decide +kernel) rfl h
      have h := sp_onk (i := .iload_n 2) (by decide +kernel) rfl h
      obtain ⟨r4, w5, hc, h⟩ := sp_callV (jj := 136) (mj := 144) (n := 2) (v := .ref o0) (args := [.int i2, .int i4]) (ls' := [.ref o0, .int i4, .int i2, pm_dead, pm_dead]) (by decide +kernel) (by decide +kernel) rfl rfl rfl h
      refine ⟨r4, w5, hc, fun x6 er hSw5 => ?_⟩
      subst er
      have h : PS X k 143 34 [.ref o0, .int i1, .int i2, .int i3, .int i4] [.int x6, .int i3] w5 r w' := h
      have h := sp_goto (mi := 143) (pc := 34) (off := 4) (t := 38) (by decide +kernel) (by decide) rfl h
      have h := sp_onk (i := .ior) (by decide +kernel) rfl h
      have h := sp_istore_n (j := 3) (ls' := [.ref o0, .int i1, .int i2, .int (i3 ||| x6), .int i4]) (by decide +kernel) (Nat.le_of_ble_eq_true rfl) rfl h
      have h := sp_iinc (j := 4) (n := 1) (v := 1) (ls' := [.ref o0, .int i1, .int i2, .int (i3 ||| x6), .int (i4 + 1)]) (by decide +kernel) rfl (by decide +kernel) rfl h
      have h := sp_goto (mi := 143) (pc := 43) (off := (-38)) (t := 5) (by decide +kernel) (by decide) rfl h
      exact h
set_option maxRecDepth 20000 in
set_option maxHeartbeats 2000000 in
theorem U144_0 {X : pm_X} {k : Nat} {w w' : pm_W} {r : Option Value} {a : Nat} {p1 : Int32} {p2 : Int32} (hS : SK w) (h : PS X (k + 1) 144 0 [.ref a, .int p1, .int p2, pm_dead, pm_dead] [] w r w') : PS X k 144 5 [.ref a, .int p1, .int p2, .int 0, .int 0] [] w r w' := by
  have h := sp_iconst1 (n := 0) (v := 0) (by decide +kernel) (by decide +kernel) h
  have h := sp_istore_n (j := 3) (ls' := [.ref a, .int p1, .int p2, .int 0, pm_dead]) (by decide +kernel) (Nat.le_of_ble_eq_true rfl) rfl h
  have h := sp_iconst (n := 0) (v := 0) (by decide +kernel) (by decide +kernel) h
  have h := sp_istore (j := 4) (ls' := [.ref a, .int p1, .int p2, .int 0, .int 0]) (by decide +kernel) (Nat.le_of_ble_eq_true rfl) rfl h
  exact h
set_option maxRecDepth 20000 in
set_option maxHeartbeats 2000000 in
theorem U144_5 {X : pm_X} {k : Nat} {w w' : pm_W} {r : Option Value} {o0 : Nat} {i1 : Int32} {i2 : Int32} {i3 : Int32} {i4 : Int32} (hS : SK w) (h : PS X (k + 1) 144 5 [.ref o0, .int i1, .int i2, .int i3, .int i4] [] w r w') : if (gI w (gR w o0 0) 0) ≤ i4 then (r = some (.int i3) ∧ w' = w) else (if i4 = i1 then (PS X k 144 5 [.ref o0, .int i1, .int i2, .int (i3 ||| 0), .int (i4 + 1)] [] w r w') else (∃ (r1 : Option Value) (w2 : pm_W), PS X k 77 0 [.ref o0, .int i1, .int i4] [] w r1 w2 ∧ (∀ x3 : Int32, r1 = some (.int x3) → SK w2 → (if x3 < i2 then (PS X k 144 5 [.ref o0, .int i1, .int i2, .int (i3 ||| 0), .int (i4 + 1)] [] w2 r w') else (PS X k 144 5 [.ref o0, .int i1, .int i2, .int (i3 ||| (1 <<< (i4 &&& 31))), .int (i4 + 1)] [] w2 r w'))))) := by
  have h := sp_one (i := .iload 4) (by decide +kernel) rfl h
  have h := sp_onk (i := .aload_n 0) (by decide +kernel) rfl h
  have h := sp_getR (jj := 12) (ci := 7) (n := 0) (by decide +kernel) (by decide +kernel) (by decide +kernel) hS h
  have h := sp_getI (jj := 121) (ci := 9) (n := 0) (by decide +kernel) (by decide +kernel) (by decide +kernel) hS h
  rcases sp_icmp_ge (mi := 144) (pc := 14) (off := 37) (t := 51) (by decide +kernel) (by decide) rfl h with ⟨hc, h⟩ | ⟨hc, h⟩
  · refine ite_t hc ?_
    have h := sp_onk (i := .iload_n 3) (by decide +kernel) rfl h
    exact sp_iret (by decide +kernel) h
  · refine ite_f hc ?_
    have h := sp_onk (i := .iload_n 3) (by decide +kernel) rfl h
    have h := sp_onk (i := .iload 4) (by decide +kernel) rfl h
    have h := sp_onk (i := .iload_n 1) (by decide +kernel) rfl h
    rcases sp_icmp_eq (mi := 144) (pc := 21) (off := 21) (t := 42) (by decide +kernel) (by decide) rfl h with ⟨hc, h⟩ | ⟨hc, h⟩
    · refine ite_t hc ?_
      have h := sp_iconst (n := 0) (v := 0) (by decide +kernel) (by decide +kernel) h
      have h := sp_onk (i := .ior) (by decide +kernel) rfl h
      have h := sp_istore_n (j := 3) (ls' := [.ref o0, .int i1, .int i2, .int (i3 ||| 0), .int i4]) (by decide +kernel) (Nat.le_of_ble_eq_true rfl) rfl h
      have h := sp_iinc (j := 4) (n := 1) (v := 1) (ls' := [.ref o0, .int i1, .int i2, .int (i3 ||| 0), .int (i4 + 1)]) (by decide +kernel) rfl (by decide +kernel) rfl h
      have h := sp_goto (mi := 144) (pc := 48) (off := (-43)) (t := 5) (by decide +kernel) (by decide) rfl h
      exact h
    · refine ite_f hc ?_
      have h := sp_onk (i := .aload_n 0) (by decide +kernel) rfl h
      have h := sp_onk (i := .iload_n 1) (by decide +kernel) rfl h
      have h := sp_onk (i := .iload 4) (by decide +kernel) rfl h
      obtain ⟨r1, w2, hc, h⟩ := sp_callV (jj := 89) (mj := 77) (n := 2) (v := .ref o0) (args := [.int i4, .int i1]) (ls' := [.ref o0, .int i1, .int i4]) (by decide +kernel) (by decide +kernel) rfl rfl rfl h
      refine ⟨r1, w2, hc, fun x3 er hSw2 => ?_⟩
      subst er
      have h : PS X k 144 31 [.ref o0, .int i1, .int i2, .int i3, .int i4] [.int x3, .int i3] w2 r w' := h
      have h := sp_onk (i := .iload_n 2) (by decide +kernel) rfl h
      rcases sp_icmp_lt (mi := 144) (pc := 32) (off := 10) (t := 42) (by decide +kernel) (by decide) rfl h with ⟨hc, h⟩ | ⟨hc, h⟩
      · refine ite_t hc ?_
        have h := sp_iconst (n := 0) (v := 0) (by decide +kernel) (by decide +kernel) h
        have h := sp_onk (i := .ior) (by decide +kernel) rfl h
        have h := sp_istore_n (j := 3) (ls' := [.ref o0, .int i1, .int i2, .int (i3 ||| 0), .int i4]) (by decide +kernel) (Nat.le_of_ble_eq_true rfl) rfl h
        have h := sp_iinc (j := 4) (n := 1) (v := 1) (ls' := [.ref o0, .int i1, .int i2, .int (i3 ||| 0), .int (i4 + 1)]) (by decide +kernel) rfl (by decide +kernel) rfl h
        have h := sp_goto (mi := 144) (pc := 48) (off := (-43)) (t := 5) (by decide +kernel) (by decide) rfl h
        exact h
      · refine ite_f hc ?_
        have h := sp_iconst (n := 1) (v := 1) (by decide +kernel) (by decide +kernel) h
        have h := sp_onk (i := .iload 4) (by decide +kernel) rfl h
        have h := sp_onk (i := .ishl) (by decide +kernel) rfl h
        have h := sp_goto (mi := 144) (pc := 39) (off := 4) (t := 43) (by decide +kernel) (by decide) rfl h
        have h := sp_onk (i := .ior) (by decide +kernel) rfl h
        have h := sp_istore_n (j := 3) (ls' := [.ref o0, .int i1, .int i2, .int (i3 ||| (1 <<< (i4 &&& 31))), .int i4]) (by decide +kernel) (Nat.le_of_ble_eq_true rfl) rfl h
        have h := sp_iinc (j := 4) (n := 1) (v := 1) (ls' := [.ref o0, .int i1, .int i2, .int (i3 ||| (1 <<< (i4 &&& 31))), .int (i4 + 1)]) (by decide +kernel) rfl (by decide +kernel) rfl h
        have h := sp_goto (mi := 144) (pc := 48) (off := (-43)) (t := 5) (by decide +kernel) (by decide) rfl h
        exact h
set_option maxRecDepth 20000 in
set_option maxHeartbeats 2000000 in
theorem U148_0 {X : pm_X} {k : Nat} {w w' : pm_W} {r : Option Value} {p1 : Int32} {p2 : Int32} {p3 : Int32} {p4 : Int32} {p5 : Int32} {p6 : Int32} (hS : SK w) (h : PS X (k + 1) 148 0 [.ref 0, .int p1, .int p2, .int p3, .int p4, .int p5, .int p6] [] w r w') : if p6 < 1 then (r = some (.int (-1)) ∧ w' = w) else (if 99 < p6 then (r = some (.int (-1)) ∧ w' = w) else (∃ (r1 : Option Value) (w2 : pm_W), PS X k 97 0 [.ref 0, .int p1, .int p2, .int p3, .int p4, .int p5] [] w r1 w2 ∧ (∀ x3 : Int32, r1 = some (.int x3) → SK w2 → (if x3 = 0 then (r = some (.int (-1)) ∧ w' = w2) else (if p4 = p5 then (r = some (.int (-1)) ∧ w' = w2) else (∃ (r4 : Option Value) (w5 : pm_W), PS X k 52 0 [.int p4, .int p5] [] w2 r4 w5 ∧ (∀ x6 : Int32, r4 = some (.int x6) → SK w5 → (aI w5 39 x6 ∧ (if p6 ≤ (aG w5 39 x6) then (∃ (r7 : Option Value) (w8 : pm_W), PS X k 149 0 [.ref 33, .int p4, .int p5, .int p6, pm_dead, pm_dead] [] w5 r7 w8 ∧ (∀ x9 : Int32, r7 = some (.int x9) → SK w8 → (r = some (.int x9) ∧ w' = w8))) else (r = some (.int (-1)) ∧ w' = w5)))))))))) := by
  have h := sp_one (i := .iload 6) (by decide +kernel) rfl h
  have h := sp_iconst (n := 1) (v := 1) (by decide +kernel) (by decide +kernel) h
  rcases sp_icmp_lt (mi := 148) (pc := 3) (off := 24) (t := 27) (by decide +kernel) (by decide) rfl h with ⟨hc, h⟩ | ⟨hc, h⟩
  · refine ite_t hc ?_
    have h := sp_iconst (n := (-1)) (v := (-1)) (by decide +kernel) (by decide +kernel) h
    exact sp_iret (by decide +kernel) h
  · refine ite_f hc ?_
    have h := sp_onk (i := .iload 6) (by decide +kernel) rfl h
    have h := sp_bipush (n := 99) (v := 99) (by decide +kernel) (by decide +kernel) h
    rcases sp_icmp_gt (mi := 148) (pc := 10) (off := 17) (t := 27) (by decide +kernel) (by decide) rfl h with ⟨hc, h⟩ | ⟨hc, h⟩
    · refine ite_t hc ?_
      have h := sp_iconst (n := (-1)) (v := (-1)) (by decide +kernel) (by decide +kernel) h
      exact sp_iret (by decide +kernel) h
    · refine ite_f hc ?_
      have h := sp_onk (i := .aload_n 0) (by decide +kernel) rfl h
      have h := sp_onk (i := .iload_n 1) (by decide +kernel) rfl h
      have h := sp_onk (i := .iload_n 2) (by decide +kernel) rfl h
      have h := sp_onk (i := .iload_n 3) (by decide +kernel) rfl h
      have h := sp_onk (i := .iload 4) (by decide +kernel) rfl h
      have h := sp_onk (i := .iload 5) (by decide +kernel) rfl h
      obtain ⟨r1, w2, hc, h⟩ := sp_callV (jj := 182) (mj := 97) (n := 5) (v := .ref 0) (args := [.int p5, .int p4, .int p3, .int p2, .int p1]) (ls' := [.ref 0, .int p1, .int p2, .int p3, .int p4, .int p5]) (by decide +kernel) (by decide +kernel) rfl rfl rfl h
      refine ⟨r1, w2, hc, fun x3 er hSw2 => ?_⟩
      subst er
      have h : PS X k 148 24 [.ref 0, .int p1, .int p2, .int p3, .int p4, .int p5, .int p6] [.int x3] w2 r w' := h
      rcases sp_if_ne (mi := 148) (pc := 24) (off := 5) (t := 29) (by decide +kernel) (by decide) rfl h with ⟨hc, h⟩ | ⟨hc, h⟩
      · refine ite_f hc ?_
        have h := sp_onk (i := .iload 4) (by decide +kernel) rfl h
        have h := sp_onk (i := .iload 5) (by decide +kernel) rfl h
        rcases sp_icmp_eq (mi := 148) (pc := 33) (off := 23) (t := 56) (by decide +kernel) (by decide) rfl h with ⟨hc, h⟩ | ⟨hc, h⟩
        · refine ite_t hc ?_
          have h := sp_iconst (n := (-1)) (v := (-1)) (by decide +kernel) (by decide +kernel) h
          exact sp_iret (by decide +kernel) h
        · refine ite_f hc ?_
          have h := sp_onk (i := .aload_n 0) (by decide +kernel) rfl h
          have h := sp_getK (jj := 34) (ci := 11) (n := 4) (b := 33) (by decide +kernel) (by decide +kernel) (by decide +kernel) (by decide +kernel) (by decide) hSw2 h
          have h := sp_getK (jj := 186) (ci := 7) (n := 3) (b := 39) (by decide +kernel) (by decide +kernel) (by decide +kernel) (by decide +kernel) (by decide) hSw2 h
          have h := sp_onk (i := .iload 4) (by decide +kernel) rfl h
          have h := sp_onk (i := .iload 5) (by decide +kernel) rfl h
          obtain ⟨r4, w5, hc, h⟩ := sp_callS (jj := 139) (mj := 52) (n := 2) (args := [.int p5, .int p4]) (ls' := [.int p4, .int p5]) (by decide +kernel) (by decide +kernel) (by decide +kernel) rfl rfl rfl h
          refine ⟨r4, w5, hc, fun x6 er hSw5 => ?_⟩
          subst er
          have h : PS X k 148 50 [.ref 0, .int p1, .int p2, .int p3, .int p4, .int p5, .int p6] [.int x6, .ref 39] w5 r w' := h
          obtain ⟨hi, h⟩ := sp_iald (by decide +kernel) h
          refine ⟨hi, ?_⟩
          have h := sp_onk (i := .iload 6) (by decide +kernel) rfl h
          rcases sp_icmp_ge (mi := 148) (pc := 53) (off := 5) (t := 58) (by decide +kernel) (by decide) rfl h with ⟨hc, h⟩ | ⟨hc, h⟩
          · refine ite_t hc ?_
            have h := sp_onk (i := .aload_n 0) (by decide +kernel) rfl h
            have h := sp_getK (jj := 34) (ci := 11) (n := 4) (b := 33) (by decide +kernel) (by decide +kernel) (by decide +kernel) (by decide +kernel) (by decide) hSw5 h
            have h := sp_onk (i := .iload 4) (by decide +kernel) rfl h
            have h := sp_onk (i := .iload 5) (by decide +kernel) rfl h
            have h := sp_onk (i := .iload 6) (by decide +kernel) rfl h
            obtain ⟨r7, w8, hc, h⟩ := sp_callV (jj := 302) (mj := 149) (n := 3) (v := .ref 33) (args := [.int p6, .int p5, .int p4]) (ls' := [.ref 33, .int p4, .int p5, .int p6, pm_dead, pm_dead]) (by decide +kernel) (by decide +kernel) rfl rfl rfl h
            refine ⟨r7, w8, hc, fun x9 er hSw8 => ?_⟩
            subst er
            have h : PS X k 148 71 [.ref 0, .int p1, .int p2, .int p3, .int p4, .int p5, .int p6] [.int x9] w8 r w' := h
            exact sp_iret (by decide +kernel) h
          · refine ite_f hc ?_
            have h := sp_iconst (n := (-1)) (v := (-1)) (by decide +kernel) (by decide +kernel) h
            exact sp_iret (by decide +kernel) h
      · refine ite_t (Classical.not_not.mp hc) ?_
        have h := sp_iconst (n := (-1)) (v := (-1)) (by decide +kernel) (by decide +kernel) h
        exact sp_iret (by decide +kernel) h
set_option maxRecDepth 20000 in
set_option maxHeartbeats 2000000 in
theorem U149_0 {X : pm_X} {k : Nat} {w w' : pm_W} {r : Option Value} {a : Nat} {p1 : Int32} {p2 : Int32} {p3 : Int32} (hS : SK w) (h : PS X (k + 1) 149 0 [.ref a, .int p1, .int p2, .int p3, pm_dead, pm_dead] [] w r w') : ∃ (r1 : Option Value) (w2 : pm_W), PS X k 144 0 [.ref a, .int p1, .int p3, pm_dead, pm_dead] [] w r1 w2 ∧ (∀ x3 : Int32, r1 = some (.int x3) → SK w2 → (PS X k 149 21 [.ref a, .int p1, .int p2, .int p3, .int ((1 <<< (p1 &&& 31)) ||| (x3 &&& ((1 <<< (p2 &&& 31)) ^^^ (-1)))), .int 2] [] w2 r w')) := by
  have h := sp_iconst1 (n := 1) (v := 1) (by decide +kernel) (by decide +kernel) h
  have h := sp_onk (i := .iload_n 1) (by decide +kernel) rfl h
  have h := sp_onk (i := .ishl) (by decide +kernel) rfl h
  have h := sp_onk (i := .aload_n 0) (by decide +kernel) rfl h
  have h := sp_onk (i := .iload_n 1) (by decide +kernel) rfl h
  have h := sp_onk (i := .iload_n 3) (by decide +kernel) rfl h
  obtain ⟨r1, w2, hc, h⟩ := sp_callV (jj := 136) (mj := 144) (n := 2) (v := .ref a) (args := [.int p3, .int p1]) (ls' := [.ref a, .int p1, .int p3, pm_dead, pm_dead]) (by decide +kernel) (by decide +kernel) rfl rfl rfl h
  refine ⟨r1, w2, hc, fun x3 er hSw2 => ?_⟩
  subst er
  have h : PS X k 149 9 [.ref a, .int p1, .int p2, .int p3, pm_dead, pm_dead] [.int x3, .int (1 <<< (p1 &&& 31))] w2 r w' := h
  have h := sp_iconst (n := 1) (v := 1) (by decide +kernel) (by decide +kernel) h
  have h := sp_onk (i := .iload_n 2) (by decide +kernel) rfl h
  have h := sp_onk (i := .ishl) (by decide +kernel) rfl h
  have h := sp_iconst (n := (-1)) (v := (-1)) (by decide +kernel) (by decide +kernel) h
  have h := sp_onk (i := .ixor) (by decide +kernel) rfl h
  have h := sp_onk (i := .iand) (by decide +kernel) rfl h
  have h := sp_onk (i := .ior) (by decide +kernel) rfl h
  have h := sp_istore (j := 4) (ls' := [.ref a, .int p1, .int p2, .int p3, .int ((1 <<< (p1 &&& 31)) ||| (x3 &&& ((1 <<< (p2 &&& 31)) ^^^ (-1)))), pm_dead]) (by decide +kernel) (Nat.le_of_ble_eq_true rfl) rfl h
  have h := sp_iconst (n := 2) (v := 2) (by decide +kernel) (by decide +kernel) h
  have h := sp_istore (j := 5) (ls' := [.ref a, .int p1, .int p2, .int p3, .int ((1 <<< (p1 &&& 31)) ||| (x3 &&& ((1 <<< (p2 &&& 31)) ^^^ (-1)))), .int 2]) (by decide +kernel) (Nat.le_of_ble_eq_true rfl) rfl h
  exact h
set_option maxRecDepth 20000 in
set_option maxHeartbeats 2000000 in
theorem U149_21 {X : pm_X} {k : Nat} {w w' : pm_W} {r : Option Value} {o0 : Nat} {i1 : Int32} {i2 : Int32} {i3 : Int32} {i4 : Int32} {i5 : Int32} (hS : SK w) (h : PS X (k + 1) 149 21 [.ref o0, .int i1, .int i2, .int i3, .int i4, .int i5] [] w r w') : if (gI w (gR w o0 0) 0) ≤ i5 then (r = some (.int (-1)) ∧ w' = w) else (∃ (r1 : Option Value) (w2 : pm_W), PS X k 143 0 [.ref o0, .int (i4 &&& ((1 <<< (i1 &&& 31)) ^^^ (-1))), .int i3, pm_dead, pm_dead] [] w r1 w2 ∧ (∀ x3 : Int32, r1 = some (.int x3) → SK w2 → (∃ (r4 : Option Value) (w5 : pm_W), PS X k 89 0 [.int (i4 ||| x3), .int i2] [] w2 r4 w5 ∧ (∀ x6 : Int32, r4 = some (.int x6) → SK w5 → (if x6 = 0 then (PS X k 149 21 [.ref o0, .int i1, .int i2, .int i3, .int (i4 ||| x3), .int (i5 + 1)] [] w5 r w') else (r = some (.int i5) ∧ w' = w5)))))) := by
  have h := sp_one (i := .iload 5) (by decide +kernel) rfl h
  have h := sp_onk (i := .aload_n 0) (by decide +kernel) rfl h
  have h := sp_getR (jj := 12) (ci := 7) (n := 0) (by decide +kernel) (by decide +kernel) (by decide +kernel) hS h
  have h := sp_getI (jj := 121) (ci := 9) (n := 0) (by decide +kernel) (by decide +kernel) (by decide +kernel) hS h
  rcases sp_icmp_ge (mi := 149) (pc := 30) (off := 39) (t := 69) (by decide +kernel) (by decide) rfl h with ⟨hc, h⟩ | ⟨hc, h⟩
  · refine ite_t hc ?_
    have h := sp_iconst (n := (-1)) (v := (-1)) (by decide +kernel) (by decide +kernel) h
    exact sp_iret (by decide +kernel) h
  · refine ite_f hc ?_
    have h := sp_onk (i := .iload 4) (by decide +kernel) rfl h
    have h := sp_onk (i := .aload_n 0) (by decide +kernel) rfl h
    have h := sp_onk (i := .iload 4) (by decide +kernel) rfl h
    have h := sp_iconst (n := 1) (v := 1) (by decide +kernel) (by decide +kernel) h
    have h := sp_onk (i := .iload_n 1) (by decide +kernel) rfl h
    have h := sp_onk (i := .ishl) (by decide +kernel) rfl h
    have h := sp_iconst (n := (-1)) (v := (-1)) (by decide +kernel) (by decide +kernel) h
    have h := sp_onk (i := .ixor) (by decide +kernel) rfl h
    have h := sp_onk (i := .iand) (by decide +kernel) rfl h
    have h := sp_onk (i := .iload_n 3) (by decide +kernel) rfl h
    obtain ⟨r1, w2, hc, h⟩ := sp_callV (jj := 139) (mj := 143) (n := 2) (v := .ref o0) (args := [.int i3, .int (i4 &&& ((1 <<< (i1 &&& 31)) ^^^ (-1)))]) (ls' := [.ref o0, .int (i4 &&& ((1 <<< (i1 &&& 31)) ^^^ (-1))), .int i3, pm_dead, pm_dead]) (by decide +kernel) (by decide +kernel) rfl rfl rfl h
    refine ⟨r1, w2, hc, fun x3 er hSw2 => ?_⟩
    subst er
    have h : PS X k 149 48 [.ref o0, .int i1, .int i2, .int i3, .int i4, .int i5] [.int x3, .int i4] w2 r w' := h
    have h := sp_onk (i := .ior) (by decide +kernel) rfl h
    have h := sp_istore (j := 4) (ls' := [.ref o0, .int i1, .int i2, .int i3, .int (i4 ||| x3), .int i5]) (by decide +kernel) (Nat.le_of_ble_eq_true rfl) rfl h
    have h := sp_onk (i := .iload 4) (by decide +kernel) rfl h
    have h := sp_onk (i := .iload_n 2) (by decide +kernel) rfl h
    obtain ⟨r4, w5, hc, h⟩ := sp_callS (jj := 110) (mj := 89) (n := 2) (args := [.int i2, .int (i4 ||| x3)]) (ls' := [.int (i4 ||| x3), .int i2]) (by decide +kernel) (by decide +kernel) (by decide +kernel) rfl rfl rfl h
    refine ⟨r4, w5, hc, fun x6 er hSw5 => ?_⟩
    subst er
    have h : PS X k 149 57 [.ref o0, .int i1, .int i2, .int i3, .int (i4 ||| x3), .int i5] [.int x6] w5 r w' := h
    rcases sp_if_eq (mi := 149) (pc := 57) (off := 6) (t := 63) (by decide +kernel) (by decide) rfl h with ⟨hc, h⟩ | ⟨hc, h⟩
    · refine ite_t hc ?_
      have h := sp_iinc (j := 5) (n := 1) (v := 1) (ls' := [.ref o0, .int i1, .int i2, .int i3, .int (i4 ||| x3), .int (i5 + 1)]) (by decide +kernel) rfl (by decide +kernel) rfl h
      have h := sp_goto (mi := 149) (pc := 66) (off := (-45)) (t := 21) (by decide +kernel) (by decide) rfl h
      exact h
    · refine ite_f hc ?_
      have h := sp_onk (i := .iload 5) (by decide +kernel) rfl h
      exact sp_iret (by decide +kernel) h
set_option maxRecDepth 20000 in
set_option maxHeartbeats 2000000 in
theorem U265_0 {X : pm_X} {k : Nat} {w w' : pm_W} {r : Option Value} {p1 : Int32} {p2 : Int32} {p3 : Int32} {p4 : Int32} (hS : SK w) (h : PS X (k + 1) 265 0 [.ref 147, .int p1, .int p2, .int p3, .int p4] [] w r w') : ∃ (r1 : Option Value) (w2 : pm_W), PS X k 246 0 [.ref 147, .int p1, .int p2, .int p3] [] w r1 w2 ∧ (∀ x3 : Int32, r1 = some (.int x3) → SK w2 → (if x3 = 0 then (r = some (.int 0) ∧ w' = w2) else (∃ (r4 : Option Value) (w5 : pm_W), PS X k 217 0 [.int 0, .int p1] [] w2 r4 w5 ∧ (∀ x6 : Int32, r4 = some (.int x6) → SK w5 → (∃ (r7 : Option Value) (w8 : pm_W), PS X k 223 0 [.ref 147, .int x6, .int p4] [] w5 r7 w8 ∧ (∀ x9 : Int32, r7 = some (.int x9) → SK w8 → (if x9 = 0 then (r = some (.int 0) ∧ w' = w8) else (r = some (.int 1) ∧ w' = w8)))))))) := by
  have h := sp_one (i := .aload_n 0) (by decide +kernel) rfl h
  have h := sp_onk (i := .iload_n 1) (by decide +kernel) rfl h
  have h := sp_onk (i := .iload_n 2) (by decide +kernel) rfl h
  have h := sp_onk (i := .iload_n 3) (by decide +kernel) rfl h
  obtain ⟨r1, w2, hc, h⟩ := sp_callV (jj := 232) (mj := 246) (n := 3) (v := .ref 147) (args := [.int p3, .int p2, .int p1]) (ls' := [.ref 147, .int p1, .int p2, .int p3]) (by decide +kernel) (by decide +kernel) rfl rfl rfl h
  refine ⟨r1, w2, hc, fun x3 er hSw2 => ?_⟩
  subst er
  have h : PS X k 265 7 [.ref 147, .int p1, .int p2, .int p3, .int p4] [.int x3] w2 r w' := h
  rcases sp_if_eq (mi := 265) (pc := 7) (off := 21) (t := 28) (by decide +kernel) (by decide) rfl h with ⟨hc, h⟩ | ⟨hc, h⟩
  · refine ite_t hc ?_
    have h := sp_iconst (n := 0) (v := 0) (by decide +kernel) (by decide +kernel) h
    exact sp_iret (by decide +kernel) h
  · refine ite_f hc ?_
    have h := sp_onk (i := .aload_n 0) (by decide +kernel) rfl h
    have h := sp_iconst (n := 0) (v := 0) (by decide +kernel) (by decide +kernel) h
    have h := sp_onk (i := .iload_n 1) (by decide +kernel) rfl h
    obtain ⟨r4, w5, hc, h⟩ := sp_callS (jj := 163) (mj := 217) (n := 2) (args := [.int p1, .int 0]) (ls' := [.int 0, .int p1]) (by decide +kernel) (by decide +kernel) (by decide +kernel) rfl rfl rfl h
    refine ⟨r4, w5, hc, fun x6 er hSw5 => ?_⟩
    subst er
    have h : PS X k 265 16 [.ref 147, .int p1, .int p2, .int p3, .int p4] [.int x6, .ref 147] w5 r w' := h
    have h := sp_onk (i := .iload 4) (by decide +kernel) rfl h
    obtain ⟨r7, w8, hc, h⟩ := sp_callV (jj := 169) (mj := 223) (n := 2) (v := .ref 147) (args := [.int p4, .int x6]) (ls' := [.ref 147, .int x6, .int p4]) (by decide +kernel) (by decide +kernel) rfl rfl rfl h
    refine ⟨r7, w8, hc, fun x9 er hSw8 => ?_⟩
    subst er
    have h : PS X k 265 21 [.ref 147, .int p1, .int p2, .int p3, .int p4] [.int x9] w8 r w' := h
    rcases sp_if_eq (mi := 265) (pc := 21) (off := 7) (t := 28) (by decide +kernel) (by decide) rfl h with ⟨hc, h⟩ | ⟨hc, h⟩
    · refine ite_t hc ?_
      have h := sp_iconst (n := 0) (v := 0) (by decide +kernel) (by decide +kernel) h
      exact sp_iret (by decide +kernel) h
    · refine ite_f hc ?_
      have h := sp_iconst (n := 1) (v := 1) (by decide +kernel) (by decide +kernel) h
      have h := sp_goto (mi := 265) (pc := 25) (off := 4) (t := 29) (by decide +kernel) (by decide) rfl h
      exact sp_iret (by decide +kernel) h
set_option maxRecDepth 20000 in
set_option maxHeartbeats 2000000 in
theorem U274_0 {X : pm_X} {k : Nat} {w w' : pm_W} {r : Option Value} {p1 : Int32} {p2 : Int32} {p3 : Int32} {p4 : Int32} (hS : SK w) (h : PS X (k + 1) 274 0 [.ref 147, .int p1, .int p2, .int p3, .int p4, pm_dead, pm_dead] [] w r w') : ∃ (r1 : Option Value) (w2 : pm_W), PS X k 265 0 [.ref 147, .int p1, .int p2, .int p3, .int p4] [] w r1 w2 ∧ (∀ x3 : Int32, r1 = some (.int x3) → SK w2 → (if x3 = 0 then (r = some (.int (-1)) ∧ w' = w2) else (∃ (r4 : Option Value) (w5 : pm_W), PS X k 217 0 [.int 0, .int p1] [] w2 r4 w5 ∧ (∀ x6 : Int32, r4 = some (.int x6) → SK w5 → (∃ (r7 : Option Value) (w8 : pm_W), PS X k 224 0 [.ref 147, .int x6, .int p4, .int 1] [] w5 r7 w8 ∧ (∀ x9 : Int32, r7 = some (.int x9) → SK w8 → (∃ (r10 : Option Value) (w11 : pm_W), PS X k 224 0 [.ref 147, .int x6, .int p4, .int 2] [] w8 r10 w11 ∧ (∀ x12 : Int32, r10 = some (.int x12) → SK w11 → (∃ (r13 : Option Value) (w14 : pm_W), PS X k 275 0 [.ref 147, .int x6, .int x9, .int x12, pm_dead, pm_dead, pm_dead, pm_dead] [] w11 r13 w14 ∧ (∀ x15 : Int32, r13 = some (.int x15) → SK w14 → (∃ (r16 : Option Value) (w17 : pm_W), PS X k 224 0 [.ref 147, .int x6, .int p4, .int 0] [] w14 r16 w17 ∧ (∀ x18 : Int32, r16 = some (.int x18) → SK w17 → (if ((x15 >>> (x18 &&& 31)) &&& 1) = 1 then (r = some (.int (-1)) ∧ w' = w17) else (r = some (.int x15) ∧ w' = w17)))))))))))))) := by
  have h := sp_one (i := .aload_n 0) (by decide +kernel) rfl h
  have h := sp_onk (i := .iload_n 1) (by decide +kernel) rfl h
  have h := sp_onk (i := .iload_n 2) (by decide +kernel) rfl h
  have h := sp_onk (i := .iload_n 3) (by decide +kernel) rfl h
  have h := sp_onk (i := .iload 4) (by decide +kernel) rfl h
  obtain ⟨r1, w2, hc, h⟩ := sp_callV (jj := 303) (mj := 265) (n := 4) (v := .ref 147) (args := [.int p4, .int p3, .int p2, .int p1]) (ls' := [.ref 147, .int p1, .int p2, .int p3, .int p4]) (by decide +kernel) (by decide +kernel) rfl rfl rfl h
  refine ⟨r1, w2, hc, fun x3 er hSw2 => ?_⟩
  subst er
  have h : PS X k 274 9 [.ref 147, .int p1, .int p2, .int p3, .int p4, pm_dead, pm_dead] [.int x3] w2 r w' := h
  rcases sp_if_ne (mi := 274) (pc := 9) (off := 5) (t := 14) (by decide +kernel) (by decide) rfl h with ⟨hc, h⟩ | ⟨hc, h⟩
  · refine ite_f hc ?_
    have h := sp_iconst (n := 0) (v := 0) (by decide +kernel) (by decide +kernel) h
    have h := sp_onk (i := .iload_n 1) (by decide +kernel) rfl h
    obtain ⟨r4, w5, hc, h⟩ := sp_callS (jj := 163) (mj := 217) (n := 2) (args := [.int p1, .int 0]) (ls' := [.int 0, .int p1]) (by decide +kernel) (by decide +kernel) (by decide +kernel) rfl rfl rfl h
    refine ⟨r4, w5, hc, fun x6 er hSw5 => ?_⟩
    subst er
    have h : PS X k 274 19 [.ref 147, .int p1, .int p2, .int p3, .int p4, pm_dead, pm_dead] [.int x6] w5 r w' := h
    have h := sp_istore (j := 5) (ls' := [.ref 147, .int p1, .int p2, .int p3, .int p4, .int x6, pm_dead]) (by decide +kernel) (Nat.le_of_ble_eq_true rfl) rfl h
    have h := sp_onk (i := .aload_n 0) (by decide +kernel) rfl h
    have h := sp_onk (i := .iload 5) (by decide +kernel) rfl h
    have h := sp_onk (i := .aload_n 0) (by decide +kernel) rfl h
    have h := sp_onk (i := .iload 5) (by decide +kernel) rfl h
    have h := sp_onk (i := .iload 4) (by decide +kernel) rfl h
    have h := sp_iconst (n := 1) (v := 1) (by decide +kernel) (by decide +kernel) h
    obtain ⟨r7, w8, hc, h⟩ := sp_callV (jj := 172) (mj := 224) (n := 3) (v := .ref 147) (args := [.int 1, .int p4, .int x6]) (ls' := [.ref 147, .int x6, .int p4, .int 1]) (by decide +kernel) (by decide +kernel) rfl rfl rfl h
    refine ⟨r7, w8, hc, fun x9 er hSw8 => ?_⟩
    subst er
    have h : PS X k 274 33 [.ref 147, .int p1, .int p2, .int p3, .int p4, .int x6, pm_dead] [.int x9, .int x6, .ref 147] w8 r w' := h
    have h := sp_onk (i := .aload_n 0) (by decide +kernel) rfl h
    have h := sp_onk (i := .iload 5) (by decide +kernel) rfl h
    have h := sp_onk (i := .iload 4) (by decide +kernel) rfl h
    have h := sp_iconst (n := 2) (v := 2) (by decide +kernel) (by decide +kernel) h
    obtain ⟨r10, w11, hc, h⟩ := sp_callV (jj := 172) (mj := 224) (n := 3) (v := .ref 147) (args := [.int 2, .int p4, .int x6]) (ls' := [.ref 147, .int x6, .int p4, .int 2]) (by decide +kernel) (by decide +kernel) rfl rfl rfl h
    refine ⟨r10, w11, hc, fun x12 er hSw11 => ?_⟩
    subst er
    have h : PS X k 274 42 [.ref 147, .int p1, .int p2, .int p3, .int p4, .int x6, pm_dead] [.int x12, .int x9, .int x6, .ref 147] w11 r w' := h
    obtain ⟨r13, w14, hc, h⟩ := sp_callV (jj := 311) (mj := 275) (n := 3) (v := .ref 147) (args := [.int x12, .int x9, .int x6]) (ls' := [.ref 147, .int x6, .int x9, .int x12, pm_dead, pm_dead, pm_dead, pm_dead]) (by decide +kernel) (by decide +kernel) rfl rfl rfl h
    refine ⟨r13, w14, hc, fun x15 er hSw14 => ?_⟩
    subst er
    have h : PS X k 274 45 [.ref 147, .int p1, .int p2, .int p3, .int p4, .int x6, pm_dead] [.int x15] w14 r w' := h
    have h := sp_istore (j := 6) (ls' := [.ref 147, .int p1, .int p2, .int p3, .int p4, .int x6, .int x15]) (by decide +kernel) (Nat.le_of_ble_eq_true rfl) rfl h
    have h := sp_onk (i := .iload 6) (by decide +kernel) rfl h
    have h := sp_onk (i := .aload_n 0) (by decide +kernel) rfl h
    have h := sp_onk (i := .iload 5) (by decide +kernel) rfl h
    have h := sp_onk (i := .iload 4) (by decide +kernel) rfl h
    have h := sp_iconst (n := 0) (v := 0) (by decide +kernel) (by decide +kernel) h
    obtain ⟨r16, w17, hc, h⟩ := sp_callV (jj := 172) (mj := 224) (n := 3) (v := .ref 147) (args := [.int 0, .int p4, .int x6]) (ls' := [.ref 147, .int x6, .int p4, .int 0]) (by decide +kernel) (by decide +kernel) rfl rfl rfl h
    refine ⟨r16, w17, hc, fun x18 er hSw17 => ?_⟩
    subst er
    have h : PS X k 274 58 [.ref 147, .int p1, .int p2, .int p3, .int p4, .int x6, .int x15] [.int x18, .int x15] w17 r w' := h
    have h := sp_onk (i := .ishr) (by decide +kernel) rfl h
    have h := sp_iconst (n := 1) (v := 1) (by decide +kernel) (by decide +kernel) h
    have h := sp_onk (i := .iand) (by decide +kernel) rfl h
    have h := sp_iconst (n := 1) (v := 1) (by decide +kernel) (by decide +kernel) h
    rcases sp_icmp_ne (mi := 274) (pc := 62) (off := 7) (t := 69) (by decide +kernel) (by decide) rfl h with ⟨hc, h⟩ | ⟨hc, h⟩
    · refine ite_f hc ?_
      have h := sp_onk (i := .iload 6) (by decide +kernel) rfl h
      exact sp_iret (by decide +kernel) h
    · refine ite_t (Classical.not_not.mp hc) ?_
      have h := sp_iconst (n := (-1)) (v := (-1)) (by decide +kernel) (by decide +kernel) h
      have h := sp_goto (mi := 274) (pc := 66) (off := 5) (t := 71) (by decide +kernel) (by decide) rfl h
      exact sp_iret (by decide +kernel) h
  · refine ite_t (Classical.not_not.mp hc) ?_
    have h := sp_iconst (n := (-1)) (v := (-1)) (by decide +kernel) (by decide +kernel) h
    exact sp_iret (by decide +kernel) h
set_option maxRecDepth 20000 in
set_option maxHeartbeats 2000000 in
theorem U275_0 {X : pm_X} {k : Nat} {w w' : pm_W} {r : Option Value} {p1 : Int32} {p2 : Int32} {p3 : Int32} (hS : SK w) (h : PS X (k + 1) 275 0 [.ref 147, .int p1, .int p2, .int p3, pm_dead, pm_dead, pm_dead, pm_dead] [] w r w') : PS X k 275 8 [.ref 147, .int p1, .int p2, .int p3, .int (1 <<< (p2 &&& 31)), .int 0, pm_dead, pm_dead] [] w r w' := by
  have h := sp_iconst1 (n := 1) (v := 1) (by decide +kernel) (by decide +kernel) h
  have h := sp_onk (i := .iload_n 2) (by decide +kernel) rfl h
  have h := sp_onk (i := .ishl) (by decide +kernel) rfl h
  have h := sp_istore (j := 4) (ls' := [.ref 147, .int p1, .int p2, .int p3, .int (1 <<< (p2 &&& 31)), pm_dead, pm_dead, pm_dead]) (by decide +kernel) (Nat.le_of_ble_eq_true rfl) rfl h
  have h := sp_iconst (n := 0) (v := 0) (by decide +kernel) (by decide +kernel) h
  have h := sp_istore (j := 5) (ls' := [.ref 147, .int p1, .int p2, .int p3, .int (1 <<< (p2 &&& 31)), .int 0, pm_dead, pm_dead]) (by decide +kernel) (Nat.le_of_ble_eq_true rfl) rfl h
  exact h
set_option maxRecDepth 20000 in
set_option maxHeartbeats 2000000 in
theorem U275_8 {X : pm_X} {k : Nat} {w w' : pm_W} {r : Option Value} {i1 : Int32} {i2 : Int32} {i3 : Int32} {i4 : Int32} {i5 : Int32} {u6 : Value} {u7 : Value} (hS : SK w) (h : PS X (k + 1) 275 8 [.ref 147, .int i1, .int i2, .int i3, .int i4, .int i5, u6, u7] [] w r w') : if i4 = i5 then (r = some (.int i4) ∧ w' = w) else (PS X k 275 22 [.ref 147, .int i1, .int i2, .int i3, .int i4, .int i4, .int 0, u7] [] w r w') := by
  have h := sp_one (i := .iload 4) (by decide +kernel) rfl h
  have h := sp_onk (i := .iload 5) (by decide +kernel) rfl h
  rcases sp_icmp_eq (mi := 275) (pc := 12) (off := 94) (t := 106) (by decide +kernel) (by decide) rfl h with ⟨hc, h⟩ | ⟨hc, h⟩
  · refine ite_t hc ?_
    have h := sp_onk (i := .iload 4) (by decide +kernel) rfl h
    exact sp_iret (by decide +kernel) h
  · refine ite_f hc ?_
    have h := sp_onk (i := .iload 4) (by decide +kernel) rfl h
    have h := sp_istore (j := 5) (ls' := [.ref 147, .int i1, .int i2, .int i3, .int i4, .int i4, u6, u7]) (by decide +kernel) (Nat.le_of_ble_eq_true rfl) rfl h
    have h := sp_iconst (n := 0) (v := 0) (by decide +kernel) (by decide +kernel) h
    have h := sp_istore (j := 6) (ls' := [.ref 147, .int i1, .int i2, .int i3, .int i4, .int i4, .int 0, u7]) (by decide +kernel) (Nat.le_of_ble_eq_true rfl) rfl h
    exact h
set_option maxRecDepth 20000 in
set_option maxHeartbeats 2000000 in
theorem U275_22 {X : pm_X} {k : Nat} {w w' : pm_W} {r : Option Value} {i1 : Int32} {i2 : Int32} {i3 : Int32} {i4 : Int32} {i5 : Int32} {i6 : Int32} {u7 : Value} (hS : SK w) (h : PS X (k + 1) 275 22 [.ref 147, .int i1, .int i2, .int i3, .int i4, .int i5, .int i6, u7] [] w r w') : aI w 148 i1 ∧ (if (aG w 148 i1) ≤ i6 then (PS X k 275 8 [.ref 147, .int i1, .int i2, .int i3, .int i4, .int i5, .int i6, u7] [] w r w') else (PS X k 275 36 [.ref 147, .int i1, .int i2, .int i3, .int i4, .int i5, .int i6, .int 0] [] w r w')) := by
  have h := sp_one (i := .iload 6) (by decide +kernel) rfl h
  have h := sp_onk (i := .aload_n 0) (by decide +kernel) rfl h
  have h := sp_getK (jj := 7) (ci := 12) (n := 0) (b := 148) (by decide +kernel) (by decide +kernel) (by decide +kernel) (by decide +kernel) (by decide) hS h
  have h := sp_onk (i := .iload_n 1) (by decide +kernel) rfl h
  obtain ⟨hi, h⟩ := sp_iald (by decide +kernel) h
  refine ⟨hi, ?_⟩
  rcases sp_icmp_ge (mi := 275) (pc := 30) (off := 73) (t := 103) (by decide +kernel) (by decide) rfl h with ⟨hc, h⟩ | ⟨hc, h⟩
  · refine ite_t hc ?_
    have h := sp_goto (mi := 275) (pc := 103) (off := (-95)) (t := 8) (by decide +kernel) (by decide) rfl h
    exact h
  · refine ite_f hc ?_
    have h := sp_iconst (n := 0) (v := 0) (by decide +kernel) (by decide +kernel) h
    have h := sp_istore (j := 7) (ls' := [.ref 147, .int i1, .int i2, .int i3, .int i4, .int i5, .int i6, .int 0]) (by decide +kernel) (Nat.le_of_ble_eq_true rfl) rfl h
    exact h
set_option maxRecDepth 20000 in
set_option maxHeartbeats 2000000 in
theorem U275_36 {X : pm_X} {k : Nat} {w w' : pm_W} {r : Option Value} {i1 : Int32} {i2 : Int32} {i3 : Int32} {i4 : Int32} {i5 : Int32} {i6 : Int32} {i7 : Int32} (hS : SK w) (h : PS X (k + 1) 275 36 [.ref 147, .int i1, .int i2, .int i3, .int i4, .int i5, .int i6, .int i7] [] w r w') : aI w 148 i1 ∧ (if (aG w 148 i1) ≤ i7 then (PS X k 275 22 [.ref 147, .int i1, .int i2, .int i3, .int i4, .int i5, .int (i6 + 1), .int i7] [] w r w') else (if ((i4 >>> (i6 &&& 31)) &&& 1) = 1 then (if i6 = i7 then (PS X k 275 36 [.ref 147, .int i1, .int i2, .int i3, .int (i4 ||| 0), .int i5, .int i6, .int (i7 + 1)] [] w r w') else (∃ (r1 : Option Value) (w2 : pm_W), PS X k 231 0 [.ref 147, .int i1, .int i6, .int i7, pm_dead] [] w r1 w2 ∧ (∀ x3 : Int32, r1 = some (.int x3) → SK w2 → (if x3 < i3 then (PS X k 275 36 [.ref 147, .int i1, .int i2, .int i3, .int (i4 ||| 0), .int i5, .int i6, .int (i7 + 1)] [] w2 r w') else (PS X k 275 36 [.ref 147, .int i1, .int i2, .int i3, .int (i4 ||| (1 <<< (i7 &&& 31))), .int i5, .int i6, .int (i7 + 1)] [] w2 r w'))))) else (PS X k 275 36 [.ref 147, .int i1, .int i2, .int i3, .int (i4 ||| 0), .int i5, .int i6, .int (i7 + 1)] [] w r w'))) := by
  have h := sp_one (i := .iload 7) (by decide +kernel) rfl h
  have h := sp_onk (i := .aload_n 0) (by decide +kernel) rfl h
  have h := sp_getK (jj := 7) (ci := 12) (n := 0) (b := 148) (by decide +kernel) (by decide +kernel) (by decide +kernel) (by decide +kernel) (by decide) hS h
  have h := sp_onk (i := .iload_n 1) (by decide +kernel) rfl h
  obtain ⟨hi, h⟩ := sp_iald (by decide +kernel) h
  refine ⟨hi, ?_⟩
  rcases sp_icmp_ge (mi := 275) (pc := 44) (off := 53) (t := 97) (by decide +kernel) (by decide) rfl h with ⟨hc, h⟩ | ⟨hc, h⟩
  · refine ite_t hc ?_
    have h := sp_iinc (j := 6) (n := 1) (v := 1) (ls' := [.ref 147, .int i1, .int i2, .int i3, .int i4, .int i5, .int (i6 + 1), .int i7]) (by decide +kernel) rfl (by decide +kernel) rfl h
    have h := sp_goto (mi := 275) (pc := 100) (off := (-78)) (t := 22) (by decide +kernel) (by decide) rfl h
    exact h
  · refine ite_f hc ?_
    have h := sp_onk (i := .iload 4) (by decide +kernel) rfl h
    have h := sp_onk (i := .iload 4) (by decide +kernel) rfl h
    have h := sp_onk (i := .iload 6) (by decide +kernel) rfl h
    have h := sp_onk (i := .ishr) (by decide +kernel) rfl h
    have h := sp_iconst (n := 1) (v := 1) (by decide +kernel) (by decide +kernel) h
    have h := sp_onk (i := .iand) (by decide +kernel) rfl h
    have h := sp_iconst (n := 1) (v := 1) (by decide +kernel) (by decide +kernel) h
    rcases sp_icmp_ne (mi := 275) (pc := 57) (off := 30) (t := 87) (by decide +kernel) (by decide) rfl h with ⟨hc, h⟩ | ⟨hc, h⟩
    · refine ite_f hc ?_
      have h := sp_iconst (n := 0) (v := 0) (by decide +kernel) (by decide +kernel) h
      have h := sp_onk (i := .ior) (by decide +kernel) rfl h
      have h := sp_istore (j := 4) (ls' := [.ref 147, .int i1, .int i2, .int i3, .int (i4 ||| 0), .int i5, .int i6, .int i7]) (by decide +kernel) (Nat.le_of_ble_eq_true rfl) rfl h
      have h := sp_iinc (j := 7) (n := 1) (v := 1) (ls' := [.ref 147, .int i1, .int i2, .int i3, .int (i4 ||| 0), .int i5, .int i6, .int (i7 + 1)]) (by decide +kernel) rfl (by decide +kernel) rfl h
      have h := sp_goto (mi := 275) (pc := 94) (off := (-58)) (t := 36) (by decide +kernel) (by decide) rfl h
      exact h
    · refine ite_t (Classical.not_not.mp hc) ?_
      have h := sp_onk (i := .iload 6) (by decide +kernel) rfl h
      have h := sp_onk (i := .iload 7) (by decide +kernel) rfl h
      rcases sp_icmp_eq (mi := 275) (pc := 64) (off := 23) (t := 87) (by decide +kernel) (by decide) rfl h with ⟨hc, h⟩ | ⟨hc, h⟩
      · refine ite_t hc ?_
        have h := sp_iconst (n := 0) (v := 0) (by decide +kernel) (by decide +kernel) h
        have h := sp_onk (i := .ior) (by decide +kernel) rfl h
        have h := sp_istore (j := 4) (ls' := [.ref 147, .int i1, .int i2, .int i3, .int (i4 ||| 0), .int i5, .int i6, .int i7]) (by decide +kernel) (Nat.le_of_ble_eq_true rfl) rfl h
        have h := sp_iinc (j := 7) (n := 1) (v := 1) (ls' := [.ref 147, .int i1, .int i2, .int i3, .int (i4 ||| 0), .int i5, .int i6, .int (i7 + 1)]) (by decide +kernel) rfl (by decide +kernel) rfl h
        have h := sp_goto (mi := 275) (pc := 94) (off := (-58)) (t := 36) (by decide +kernel) (by decide) rfl h
        exact h
      · refine ite_f hc ?_
        have h := sp_onk (i := .aload_n 0) (by decide +kernel) rfl h
        have h := sp_onk (i := .iload_n 1) (by decide +kernel) rfl h
        have h := sp_onk (i := .iload 6) (by decide +kernel) rfl h
        have h := sp_onk (i := .iload 7) (by decide +kernel) rfl h
        obtain ⟨r1, w2, hc, h⟩ := sp_callV (jj := 199) (mj := 231) (n := 3) (v := .ref 147) (args := [.int i7, .int i6, .int i1]) (ls' := [.ref 147, .int i1, .int i6, .int i7, pm_dead]) (by decide +kernel) (by decide +kernel) rfl rfl rfl h
        refine ⟨r1, w2, hc, fun x3 er hSw2 => ?_⟩
        subst er
        have h : PS X k 275 76 [.ref 147, .int i1, .int i2, .int i3, .int i4, .int i5, .int i6, .int i7] [.int x3, .int i4] w2 r w' := h
        have h := sp_onk (i := .iload_n 3) (by decide +kernel) rfl h
        rcases sp_icmp_lt (mi := 275) (pc := 77) (off := 10) (t := 87) (by decide +kernel) (by decide) rfl h with ⟨hc, h⟩ | ⟨hc, h⟩
        · refine ite_t hc ?_
          have h := sp_iconst (n := 0) (v := 0) (by decide +kernel) (by decide +kernel) h
          have h := sp_onk (i := .ior) (by decide +kernel) rfl h
          have h := sp_istore (j := 4) (ls' := [.ref 147, .int i1, .int i2, .int i3, .int (i4 ||| 0), .int i5, .int i6, .int i7]) (by decide +kernel) (Nat.le_of_ble_eq_true rfl) rfl h
          have h := sp_iinc (j := 7) (n := 1) (v := 1) (ls' := [.ref 147, .int i1, .int i2, .int i3, .int (i4 ||| 0), .int i5, .int i6, .int (i7 + 1)]) (by decide +kernel) rfl (by decide +kernel) rfl h
          have h := sp_goto (mi := 275) (pc := 94) (off := (-58)) (t := 36) (by decide +kernel) (by decide) rfl h
          exact h
        · refine ite_f hc ?_
          have h := sp_iconst (n := 1) (v := 1) (by decide +kernel) (by decide +kernel) h
          have h := sp_onk (i := .iload 7) (by decide +kernel) rfl h
          have h := sp_onk (i := .ishl) (by decide +kernel) rfl h
          have h := sp_goto (mi := 275) (pc := 84) (off := 4) (t := 88) (by decide +kernel) (by decide) rfl h
          have h := sp_onk (i := .ior) (by decide +kernel) rfl h
          have h := sp_istore (j := 4) (ls' := [.ref 147, .int i1, .int i2, .int i3, .int (i4 ||| (1 <<< (i7 &&& 31))), .int i5, .int i6, .int i7]) (by decide +kernel) (Nat.le_of_ble_eq_true rfl) rfl h
          have h := sp_iinc (j := 7) (n := 1) (v := 1) (ls' := [.ref 147, .int i1, .int i2, .int i3, .int (i4 ||| (1 <<< (i7 &&& 31))), .int i5, .int i6, .int (i7 + 1)]) (by decide +kernel) rfl (by decide +kernel) rfl h
          have h := sp_goto (mi := 275) (pc := 94) (off := (-58)) (t := 36) (by decide +kernel) (by decide) rfl h
          exact h
set_option maxRecDepth 20000 in
set_option maxHeartbeats 2000000 in
theorem U300_0 {X : pm_X} {k : Nat} {w w' : pm_W} {r : Option Value} {p1 : Int32} {p2 : Int32} {p3 : Int32} {p4 : Int32} {p5 : Int32} {p6 : Int32} (hS : SK w) (h : PS X (k + 1) 300 0 [.ref 147, .int p1, .int p2, .int p3, .int p4, .int p5, .int p6, pm_dead, pm_dead, pm_dead, pm_dead, pm_dead, pm_dead] [] w r w') : ∃ (r1 : Option Value) (w2 : pm_W), PS X k 245 0 [.ref 147, .int p1, .int p2, .int p3, .int p4, .int p5] [] w r1 w2 ∧ (∀ x3 : Int32, r1 = some (.int x3) → SK w2 → (if x3 = 0 then (PS X k 300 45 [.ref 147, .int p1, .int p2, .int p3, .int p4, .int p5, .int p6, pm_dead, pm_dead, pm_dead, pm_dead, pm_dead, pm_dead] [] w2 r w') else (if p4 = p5 then (PS X k 300 45 [.ref 147, .int p1, .int p2, .int p3, .int p4, .int p5, .int p6, pm_dead, pm_dead, pm_dead, pm_dead, pm_dead, pm_dead] [] w2 r w') else (∃ (r4 : Option Value) (w5 : pm_W), PS X k 199 0 [.int p6, .int 1, .int 99] [] w2 r4 w5 ∧ (∀ x6 : Int32, r4 = some (.int x6) → SK w5 → (if x6 = 0 then (PS X k 300 45 [.ref 147, .int p1, .int p2, .int p3, .int p4, .int p5, .int p6, pm_dead, pm_dead, pm_dead, pm_dead, pm_dead, pm_dead] [] w5 r w') else (∃ (r7 : Option Value) (w8 : pm_W), PS X k 232 0 [.ref 147, .int p4, .int p5] [] w5 r7 w8 ∧ (∀ x9 : Int32, r7 = some (.int x9) → SK w8 → (if p6 ≤ x9 then (∃ (r10 : Option Value) (w11 : pm_W), PS X k 217 0 [.int 0, .int p1] [] w8 r10 w11 ∧ (∀ x12 : Int32, r10 = some (.int x12) → SK w11 → (PS X k 300 63 [.ref 147, .int p1, .int p2, .int p3, .int p4, .int p5, .int p6, .int x12, .int (1 <<< (p4 &&& 31)), .int 1, pm_dead, pm_dead, pm_dead] [] w11 r w'))) else (PS X k 300 45 [.ref 147, .int p1, .int p2, .int p3, .int p4, .int p5, .int p6, pm_dead, pm_dead, pm_dead, pm_dead, pm_dead, pm_dead] [] w8 r w')))))))))) := by
  have h := sp_one (i := .aload_n 0) (by decide +kernel) rfl h
  have h := sp_onk (i := .iload_n 1) (by decide +kernel) rfl h
  have h := sp_onk (i := .iload_n 2) (by decide +kernel) rfl h
  have h := sp_onk (i := .iload_n 3) (by decide +kernel) rfl h
  have h := sp_onk (i := .iload 4) (by decide +kernel) rfl h
  have h := sp_onk (i := .iload 5) (by decide +kernel) rfl h
  obtain ⟨r1, w2, hc, h⟩ := sp_callV (jj := 235) (mj := 245) (n := 5) (v := .ref 147) (args := [.int p5, .int p4, .int p3, .int p2, .int p1]) (ls' := [.ref 147, .int p1, .int p2, .int p3, .int p4, .int p5]) (by decide +kernel) (by decide +kernel) rfl rfl rfl h
  refine ⟨r1, w2, hc, fun x3 er hSw2 => ?_⟩
  subst er
  have h : PS X k 300 11 [.ref 147, .int p1, .int p2, .int p3, .int p4, .int p5, .int p6, pm_dead, pm_dead, pm_dead, pm_dead, pm_dead, pm_dead] [.int x3] w2 r w' := h
  rcases sp_if_eq (mi := 300) (pc := 11) (off := 34) (t := 45) (by decide +kernel) (by decide) rfl h with ⟨hc, h⟩ | ⟨hc, h⟩
  · refine ite_t hc ?_
    exact h
  · refine ite_f hc ?_
    have h := sp_onk (i := .iload 4) (by decide +kernel) rfl h
    have h := sp_onk (i := .iload 5) (by decide +kernel) rfl h
    rcases sp_icmp_eq (mi := 300) (pc := 18) (off := 27) (t := 45) (by decide +kernel) (by decide) rfl h with ⟨hc, h⟩ | ⟨hc, h⟩
    · refine ite_t hc ?_
      exact h
    · refine ite_f hc ?_
      have h := sp_onk (i := .iload 6) (by decide +kernel) rfl h
      have h := sp_iconst (n := 1) (v := 1) (by decide +kernel) (by decide +kernel) h
      have h := sp_bipush (n := 99) (v := 99) (by decide +kernel) (by decide +kernel) h
      obtain ⟨r4, w5, hc, h⟩ := sp_callS (jj := 119) (mj := 199) (n := 3) (args := [.int 99, .int 1, .int p6]) (ls' := [.int p6, .int 1, .int 99]) (by decide +kernel) (by decide +kernel) (by decide +kernel) rfl rfl rfl h
      refine ⟨r4, w5, hc, fun x6 er hSw5 => ?_⟩
      subst er
      have h : PS X k 300 29 [.ref 147, .int p1, .int p2, .int p3, .int p4, .int p5, .int p6, pm_dead, pm_dead, pm_dead, pm_dead, pm_dead, pm_dead] [.int x6] w5 r w' := h
      rcases sp_if_eq (mi := 300) (pc := 29) (off := 16) (t := 45) (by decide +kernel) (by decide) rfl h with ⟨hc, h⟩ | ⟨hc, h⟩
      · refine ite_t hc ?_
        exact h
      · refine ite_f hc ?_
        have h := sp_onk (i := .aload_n 0) (by decide +kernel) rfl h
        have h := sp_onk (i := .iload 4) (by decide +kernel) rfl h
        have h := sp_onk (i := .iload 5) (by decide +kernel) rfl h
        obtain ⟨r7, w8, hc, h⟩ := sp_callV (jj := 181) (mj := 232) (n := 2) (v := .ref 147) (args := [.int p5, .int p4]) (ls' := [.ref 147, .int p4, .int p5]) (by decide +kernel) (by decide +kernel) rfl rfl rfl h
        refine ⟨r7, w8, hc, fun x9 er hSw8 => ?_⟩
        subst er
        have h : PS X k 300 40 [.ref 147, .int p1, .int p2, .int p3, .int p4, .int p5, .int p6, pm_dead, pm_dead, pm_dead, pm_dead, pm_dead, pm_dead] [.int x9] w8 r w' := h
        have h := sp_onk (i := .iload 6) (by decide +kernel) rfl h
        rcases sp_icmp_ge (mi := 300) (pc := 42) (off := 5) (t := 47) (by decide +kernel) (by decide) rfl h with ⟨hc, h⟩ | ⟨hc, h⟩
        · refine ite_t hc ?_
          have h := sp_iconst (n := 0) (v := 0) (by decide +kernel) (by decide +kernel) h
          have h := sp_onk (i := .iload_n 1) (by decide +kernel) rfl h
          obtain ⟨r10, w11, hc, h⟩ := sp_callS (jj := 163) (mj := 217) (n := 2) (args := [.int p1, .int 0]) (ls' := [.int 0, .int p1]) (by decide +kernel) (by decide +kernel) (by decide +kernel) rfl rfl rfl h
          refine ⟨r10, w11, hc, fun x12 er hSw11 => ?_⟩
          subst er
          have h : PS X k 300 52 [.ref 147, .int p1, .int p2, .int p3, .int p4, .int p5, .int p6, pm_dead, pm_dead, pm_dead, pm_dead, pm_dead, pm_dead] [.int x12] w11 r w' := h
          have h := sp_istore (j := 7) (ls' := [.ref 147, .int p1, .int p2, .int p3, .int p4, .int p5, .int p6, .int x12, pm_dead, pm_dead, pm_dead, pm_dead, pm_dead]) (by decide +kernel) (Nat.le_of_ble_eq_true rfl) rfl h
          have h := sp_iconst (n := 1) (v := 1) (by decide +kernel) (by decide +kernel) h
          have h := sp_onk (i := .iload 4) (by decide +kernel) rfl h
          have h := sp_onk (i := .ishl) (by decide +kernel) rfl h
          have h := sp_istore (j := 8) (ls' := [.ref 147, .int p1, .int p2, .int p3, .int p4, .int p5, .int p6, .int x12, .int (1 <<< (p4 &&& 31)), pm_dead, pm_dead, pm_dead, pm_dead]) (by decide +kernel) (Nat.le_of_ble_eq_true rfl) rfl h
          have h := sp_iconst (n := 1) (v := 1) (by decide +kernel) (by decide +kernel) h
          have h := sp_istore (j := 9) (ls' := [.ref 147, .int p1, .int p2, .int p3, .int p4, .int p5, .int p6, .int x12, .int (1 <<< (p4 &&& 31)), .int 1, pm_dead, pm_dead, pm_dead]) (by decide +kernel) (Nat.le_of_ble_eq_true rfl) rfl h
          exact h
        · refine ite_f hc ?_
          exact h
set_option maxRecDepth 20000 in
set_option maxHeartbeats 2000000 in
theorem U300_45 {X : pm_X} {k : Nat} {w w' : pm_W} {r : Option Value} {i1 : Int32} {i2 : Int32} {i3 : Int32} {i4 : Int32} {i5 : Int32} {i6 : Int32} (hS : SK w) (h : PS X (k + 1) 300 45 [.ref 147, .int i1, .int i2, .int i3, .int i4, .int i5, .int i6, pm_dead, pm_dead, pm_dead, pm_dead, pm_dead, pm_dead] [] w r w') : r = some (.int (-1)) ∧ w' = w := by
  have h := sp_iconst1 (n := (-1)) (v := (-1)) (by decide +kernel) (by decide +kernel) h
  exact sp_iret (by decide +kernel) h
set_option maxRecDepth 20000 in
set_option maxHeartbeats 2000000 in
theorem U300_63 {X : pm_X} {k : Nat} {w w' : pm_W} {r : Option Value} {i1 : Int32} {i2 : Int32} {i3 : Int32} {i4 : Int32} {i5 : Int32} {i6 : Int32} {i7 : Int32} {i8 : Int32} {i9 : Int32} {u10 : Value} {u11 : Value} {u12 : Value} (hS : SK w) (h : PS X (k + 1) 300 63 [.ref 147, .int i1, .int i2, .int i3, .int i4, .int i5, .int i6, .int i7, .int i8, .int i9, u10, u11, u12] [] w r w') : if 10 ≤ i9 then (r = some (.int (-1)) ∧ w' = w) else (PS X k 300 77 [.ref 147, .int i1, .int i2, .int i3, .int i4, .int i5, .int i6, .int i7, .int i8, .int i9, .int i8, .int 0, u12] [] w r w') := by
  have h := sp_one (i := .iload 9) (by decide +kernel) rfl h
  have h := sp_bipush (n := 10) (v := 10) (by decide +kernel) (by decide +kernel) h
  rcases sp_icmp_ge (mi := 300) (pc := 67) (off := 133) (t := 200) (by decide +kernel) (by decide) rfl h with ⟨hc, h⟩ | ⟨hc, h⟩
  · refine ite_t hc ?_
    have h := sp_iconst (n := (-1)) (v := (-1)) (by decide +kernel) (by decide +kernel) h
    exact sp_iret (by decide +kernel) h
  · refine ite_f hc ?_
    have h := sp_onk (i := .iload 8) (by decide +kernel) rfl h
    have h := sp_istore (j := 10) (ls' := [.ref 147, .int i1, .int i2, .int i3, .int i4, .int i5, .int i6, .int i7, .int i8, .int i9, .int i8, u11, u12]) (by decide +kernel) (Nat.le_of_ble_eq_true rfl) rfl h
    have h := sp_iconst (n := 0) (v := 0) (by decide +kernel) (by decide +kernel) h
    have h := sp_istore (j := 11) (ls' := [.ref 147, .int i1, .int i2, .int i3, .int i4, .int i5, .int i6, .int i7, .int i8, .int i9, .int i8, .int 0, u12]) (by decide +kernel) (Nat.le_of_ble_eq_true rfl) rfl h
    exact h
set_option maxRecDepth 20000 in
set_option maxHeartbeats 2000000 in
theorem U300_77 {X : pm_X} {k : Nat} {w w' : pm_W} {r : Option Value} {i1 : Int32} {i2 : Int32} {i3 : Int32} {i4 : Int32} {i5 : Int32} {i6 : Int32} {i7 : Int32} {i8 : Int32} {i9 : Int32} {i10 : Int32} {i11 : Int32} {u12 : Value} (hS : SK w) (h : PS X (k + 1) 300 77 [.ref 147, .int i1, .int i2, .int i3, .int i4, .int i5, .int i6, .int i7, .int i8, .int i9, .int i10, .int i11, u12] [] w r w') : aI w 148 i7 ∧ (if (aG w 148 i7) ≤ i11 then (if ((i10 >>> (i5 &&& 31)) &&& 1) = 1 then (r = some (.int i9) ∧ w' = w) else (PS X k 300 63 [.ref 147, .int i1, .int i2, .int i3, .int i4, .int i5, .int i6, .int i7, .int i10, .int (i9 + 1), .int i10, .int i11, u12] [] w r w')) else (PS X k 300 92 [.ref 147, .int i1, .int i2, .int i3, .int i4, .int i5, .int i6, .int i7, .int i8, .int i9, .int i10, .int i11, .int 0] [] w r w')) := by
  have h := sp_one (i := .iload 11) (by decide +kernel) rfl h
  have h := sp_onk (i := .aload_n 0) (by decide +kernel) rfl h
  have h := sp_getK (jj := 7) (ci := 12) (n := 0) (b := 148) (by decide +kernel) (by decide +kernel) (by decide +kernel) (by decide +kernel) (by decide) hS h
  have h := sp_onk (i := .iload 7) (by decide +kernel) rfl h
  obtain ⟨hi, h⟩ := sp_iald (by decide +kernel) h
  refine ⟨hi, ?_⟩
  rcases sp_icmp_ge (mi := 300) (pc := 86) (off := 90) (t := 176) (by decide +kernel) (by decide) rfl h with ⟨hc, h⟩ | ⟨hc, h⟩
  · refine ite_t hc ?_
    have h := sp_onk (i := .iload 10) (by decide +kernel) rfl h
    have h := sp_istore (j := 8) (ls' := [.ref 147, .int i1, .int i2, .int i3, .int i4, .int i5, .int i6, .int i7, .int i10, .int i9, .int i10, .int i11, u12]) (by decide +kernel) (Nat.le_of_ble_eq_true rfl) rfl h
    have h := sp_onk (i := .iload 8) (by decide +kernel) rfl h
    have h := sp_onk (i := .iload 5) (by decide +kernel) rfl h
    have h := sp_onk (i := .ishr) (by decide +kernel) rfl h
    have h := sp_iconst (n := 1) (v := 1) (by decide +kernel) (by decide +kernel) h
    have h := sp_onk (i := .iand) (by decide +kernel) rfl h
    have h := sp_iconst (n := 1) (v := 1) (by decide +kernel) (by decide +kernel) h
    rcases sp_icmp_ne (mi := 300) (pc := 188) (off := 6) (t := 194) (by decide +kernel) (by decide) rfl h with ⟨hc, h⟩ | ⟨hc, h⟩
    · refine ite_f hc ?_
      have h := sp_iinc (j := 9) (n := 1) (v := 1) (ls' := [.ref 147, .int i1, .int i2, .int i3, .int i4, .int i5, .int i6, .int i7, .int i10, .int (i9 + 1), .int i10, .int i11, u12]) (by decide +kernel) rfl (by decide +kernel) rfl h
      have h := sp_goto (mi := 300) (pc := 197) (off := (-134)) (t := 63) (by decide +kernel) (by decide) rfl h
      exact h
    · refine ite_t (Classical.not_not.mp hc) ?_
      have h := sp_onk (i := .iload 9) (by decide +kernel) rfl h
      exact sp_iret (by decide +kernel) h
  · refine ite_f hc ?_
    have h := sp_iconst (n := 0) (v := 0) (by decide +kernel) (by decide +kernel) h
    have h := sp_istore (j := 12) (ls' := [.ref 147, .int i1, .int i2, .int i3, .int i4, .int i5, .int i6, .int i7, .int i8, .int i9, .int i10, .int i11, .int 0]) (by decide +kernel) (Nat.le_of_ble_eq_true rfl) rfl h
    exact h
set_option maxRecDepth 20000 in
set_option maxHeartbeats 2000000 in
theorem U300_92 {X : pm_X} {k : Nat} {w w' : pm_W} {r : Option Value} {i1 : Int32} {i2 : Int32} {i3 : Int32} {i4 : Int32} {i5 : Int32} {i6 : Int32} {i7 : Int32} {i8 : Int32} {i9 : Int32} {i10 : Int32} {i11 : Int32} {i12 : Int32} (hS : SK w) (h : PS X (k + 1) 300 92 [.ref 147, .int i1, .int i2, .int i3, .int i4, .int i5, .int i6, .int i7, .int i8, .int i9, .int i10, .int i11, .int i12] [] w r w') : aI w 148 i7 ∧ (if (aG w 148 i7) ≤ i12 then (PS X k 300 77 [.ref 147, .int i1, .int i2, .int i3, .int i4, .int i5, .int i6, .int i7, .int i8, .int i9, .int i10, .int (i11 + 1), .int i12] [] w r w') else (if ((i8 >>> (i11 &&& 31)) &&& 1) = 1 then (if i11 = i12 then (PS X k 300 92 [.ref 147, .int i1, .int i2, .int i3, .int i4, .int i5, .int i6, .int i7, .int i8, .int i9, .int (i10 ||| 0), .int i11, .int (i12 + 1)] [] w r w') else (if i11 = i4 then (if i12 = i5 then (PS X k 300 92 [.ref 147, .int i1, .int i2, .int i3, .int i4, .int i5, .int i6, .int i7, .int i8, .int i9, .int (i10 ||| 0), .int i11, .int (i12 + 1)] [] w r w') else (∃ (r4 : Option Value) (w5 : pm_W), PS X k 231 0 [.ref 147, .int i7, .int i11, .int i12, pm_dead] [] w r4 w5 ∧ (∀ x6 : Int32, r4 = some (.int x6) → SK w5 → (if x6 < i6 then (PS X k 300 92 [.ref 147, .int i1, .int i2, .int i3, .int i4, .int i5, .int i6, .int i7, .int i8, .int i9, .int (i10 ||| 0), .int i11, .int (i12 + 1)] [] w5 r w') else (PS X k 300 92 [.ref 147, .int i1, .int i2, .int i3, .int i4, .int i5, .int i6, .int i7, .int i8, .int i9, .int (i10 ||| (1 <<< (i12 &&& 31))), .int i11, .int (i12 + 1)] [] w5 r w'))))) else (∃ (r1 : Option Value) (w2 : pm_W), PS X k 231 0 [.ref 147, .int i7, .int i11, .int i12, pm_dead] [] w r1 w2 ∧ (∀ x3 : Int32, r1 = some (.int x3) → SK w2 → (if x3 < i6 then (PS X k 300 92 [.ref 147, .int i1, .int i2, .int i3, .int i4, .int i5, .int i6, .int i7, .int i8, .int i9, .int (i10 ||| 0), .int i11, .int (i12 + 1)] [] w2 r w') else (PS X k 300 92 [.ref 147, .int i1, .int i2, .int i3, .int i4, .int i5, .int i6, .int i7, .int i8, .int i9, .int (i10 ||| (1 <<< (i12 &&& 31))), .int i11, .int (i12 + 1)] [] w2 r w')))))) else (PS X k 300 92 [.ref 147, .int i1, .int i2, .int i3, .int i4, .int i5, .int i6, .int i7, .int i8, .int i9, .int (i10 ||| 0), .int i11, .int (i12 + 1)] [] w r w'))) := by
  have h := sp_one (i := .iload 12) (by decide +kernel) rfl h
  have h := sp_onk (i := .aload_n 0) (by decide +kernel) rfl h
  have h := sp_getK (jj := 7) (ci := 12) (n := 0) (b := 148) (by decide +kernel) (by decide +kernel) (by decide +kernel) (by decide +kernel) (by decide) hS h
  have h := sp_onk (i := .iload 7) (by decide +kernel) rfl h
  obtain ⟨hi, h⟩ := sp_iald (by decide +kernel) h
  refine ⟨hi, ?_⟩
  rcases sp_icmp_ge (mi := 300) (pc := 101) (off := 69) (t := 170) (by decide +kernel) (by decide) rfl h with ⟨hc, h⟩ | ⟨hc, h⟩
  · refine ite_t hc ?_
    have h := sp_iinc (j := 11) (n := 1) (v := 1) (ls' := [.ref 147, .int i1, .int i2, .int i3, .int i4, .int i5, .int i6, .int i7, .int i8, .int i9, .int i10, .int (i11 + 1), .int i12]) (by decide +kernel) rfl (by decide +kernel) rfl h
    have h := sp_goto (mi := 300) (pc := 173) (off := (-96)) (t := 77) (by decide +kernel) (by decide) rfl h
    exact h
  · refine ite_f hc ?_
    have h := sp_onk (i := .iload 10) (by decide +kernel) rfl h
    have h := sp_onk (i := .iload 8) (by decide +kernel) rfl h
    have h := sp_onk (i := .iload 11) (by decide +kernel) rfl h
    have h := sp_onk (i := .ishr) (by decide +kernel) rfl h
    have h := sp_iconst (n := 1) (v := 1) (by decide +kernel) (by decide +kernel) h
    have h := sp_onk (i := .iand) (by decide +kernel) rfl h
    have h := sp_iconst (n := 1) (v := 1) (by decide +kernel) (by decide +kernel) h
    rcases sp_icmp_ne (mi := 300) (pc := 114) (off := 46) (t := 160) (by decide +kernel) (by decide) rfl h with ⟨hc, h⟩ | ⟨hc, h⟩
    · refine ite_f hc ?_
      have h := sp_iconst (n := 0) (v := 0) (by decide +kernel) (by decide +kernel) h
      have h := sp_onk (i := .ior) (by decide +kernel) rfl h
      have h := sp_istore (j := 10) (ls' := [.ref 147, .int i1, .int i2, .int i3, .int i4, .int i5, .int i6, .int i7, .int i8, .int i9, .int (i10 ||| 0), .int i11, .int i12]) (by decide +kernel) (Nat.le_of_ble_eq_true rfl) rfl h
      have h := sp_iinc (j := 12) (n := 1) (v := 1) (ls' := [.ref 147, .int i1, .int i2, .int i3, .int i4, .int i5, .int i6, .int i7, .int i8, .int i9, .int (i10 ||| 0), .int i11, .int (i12 + 1)]) (by decide +kernel) rfl (by decide +kernel) rfl h
      have h := sp_goto (mi := 300) (pc := 167) (off := (-75)) (t := 92) (by decide +kernel) (by decide) rfl h
      exact h
    · refine ite_t (Classical.not_not.mp hc) ?_
      have h := sp_onk (i := .iload 11) (by decide +kernel) rfl h
      have h := sp_onk (i := .iload 12) (by decide +kernel) rfl h
      rcases sp_icmp_eq (mi := 300) (pc := 121) (off := 39) (t := 160) (by decide +kernel) (by decide) rfl h with ⟨hc, h⟩ | ⟨hc, h⟩
      · refine ite_t hc ?_
        have h := sp_iconst (n := 0) (v := 0) (by decide +kernel) (by decide +kernel) h
        have h := sp_onk (i := .ior) (by decide +kernel) rfl h
        have h := sp_istore (j := 10) (ls' := [.ref 147, .int i1, .int i2, .int i3, .int i4, .int i5, .int i6, .int i7, .int i8, .int i9, .int (i10 ||| 0), .int i11, .int i12]) (by decide +kernel) (Nat.le_of_ble_eq_true rfl) rfl h
        have h := sp_iinc (j := 12) (n := 1) (v := 1) (ls' := [.ref 147, .int i1, .int i2, .int i3, .int i4, .int i5, .int i6, .int i7, .int i8, .int i9, .int (i10 ||| 0), .int i11, .int (i12 + 1)]) (by decide +kernel) rfl (by decide +kernel) rfl h
        have h := sp_goto (mi := 300) (pc := 167) (off := (-75)) (t := 92) (by decide +kernel) (by decide) rfl h
        exact h
      · refine ite_f hc ?_
        have h := sp_onk (i := .iload 11) (by decide +kernel) rfl h
        have h := sp_onk (i := .iload 4) (by decide +kernel) rfl h
        rcases sp_icmp_ne (mi := 300) (pc := 128) (off := 10) (t := 138) (by decide +kernel) (by decide) rfl h with ⟨hc, h⟩ | ⟨hc, h⟩
        · refine ite_f hc ?_
          have h := sp_onk (i := .aload_n 0) (by decide +kernel) rfl h
          have h := sp_onk (i := .iload 7) (by decide +kernel) rfl h
          have h := sp_onk (i := .iload 11) (by decide +kernel) rfl h
          have h := sp_onk (i := .iload 12) (by decide +kernel) rfl h
          obtain ⟨r1, w2, hc, h⟩ := sp_callV (jj := 199) (mj := 231) (n := 3) (v := .ref 147) (args := [.int i12, .int i11, .int i7]) (ls' := [.ref 147, .int i7, .int i11, .int i12, pm_dead]) (by decide +kernel) (by decide +kernel) rfl rfl rfl h
          refine ⟨r1, w2, hc, fun x3 er hSw2 => ?_⟩
          subst er
          have h : PS X k 300 148 [.ref 147, .int i1, .int i2, .int i3, .int i4, .int i5, .int i6, .int i7, .int i8, .int i9, .int i10, .int i11, .int i12] [.int x3, .int i10] w2 r w' := h
          have h := sp_onk (i := .iload 6) (by decide +kernel) rfl h
          rcases sp_icmp_lt (mi := 300) (pc := 150) (off := 10) (t := 160) (by decide +kernel) (by decide) rfl h with ⟨hc, h⟩ | ⟨hc, h⟩
          · refine ite_t hc ?_
            have h := sp_iconst (n := 0) (v := 0) (by decide +kernel) (by decide +kernel) h
            have h := sp_onk (i := .ior) (by decide +kernel) rfl h
            have h := sp_istore (j := 10) (ls' := [.ref 147, .int i1, .int i2, .int i3, .int i4, .int i5, .int i6, .int i7, .int i8, .int i9, .int (i10 ||| 0), .int i11, .int i12]) (by decide +kernel) (Nat.le_of_ble_eq_true rfl) rfl h
            have h := sp_iinc (j := 12) (n := 1) (v := 1) (ls' := [.ref 147, .int i1, .int i2, .int i3, .int i4, .int i5, .int i6, .int i7, .int i8, .int i9, .int (i10 ||| 0), .int i11, .int (i12 + 1)]) (by decide +kernel) rfl (by decide +kernel) rfl h
            have h := sp_goto (mi := 300) (pc := 167) (off := (-75)) (t := 92) (by decide +kernel) (by decide) rfl h
            exact h
          · refine ite_f hc ?_
            have h := sp_iconst (n := 1) (v := 1) (by decide +kernel) (by decide +kernel) h
            have h := sp_onk (i := .iload 12) (by decide +kernel) rfl h
            have h := sp_onk (i := .ishl) (by decide +kernel) rfl h
            have h := sp_goto (mi := 300) (pc := 157) (off := 4) (t := 161) (by decide +kernel) (by decide) rfl h
            have h := sp_onk (i := .ior) (by decide +kernel) rfl h
            have h := sp_istore (j := 10) (ls' := [.ref 147, .int i1, .int i2, .int i3, .int i4, .int i5, .int i6, .int i7, .int i8, .int i9, .int (i10 ||| (1 <<< (i12 &&& 31))), .int i11, .int i12]) (by decide +kernel) (Nat.le_of_ble_eq_true rfl) rfl h
            have h := sp_iinc (j := 12) (n := 1) (v := 1) (ls' := [.ref 147, .int i1, .int i2, .int i3, .int i4, .int i5, .int i6, .int i7, .int i8, .int i9, .int (i10 ||| (1 <<< (i12 &&& 31))), .int i11, .int (i12 + 1)]) (by decide +kernel) rfl (by decide +kernel) rfl h
            have h := sp_goto (mi := 300) (pc := 167) (off := (-75)) (t := 92) (by decide +kernel) (by decide) rfl h
            exact h
        · refine ite_t (Classical.not_not.mp hc) ?_
          have h := sp_onk (i := .iload 12) (by decide +kernel) rfl h
          have h := sp_onk (i := .iload 5) (by decide +kernel) rfl h
          rcases sp_icmp_eq (mi := 300) (pc := 135) (off := 25) (t := 160) (by decide +kernel) (by decide) rfl h with ⟨hc, h⟩ | ⟨hc, h⟩
          · refine ite_t hc ?_
            have h := sp_iconst (n := 0) (v := 0) (by decide +kernel) (by decide +kernel) h
            have h := sp_onk (i := .ior) (by decide +kernel) rfl h
            have h := sp_istore (j := 10) (ls' := [.ref 147, .int i1, .int i2, .int i3, .int i4, .int i5, .int i6, .int i7, .int i8, .int i9, .int (i10 ||| 0), .int i11, .int i12]) (by decide +kernel) (Nat.le_of_ble_eq_true rfl) rfl h
            have h := sp_iinc (j := 12) (n := 1) (v := 1) (ls' := [.ref 147, .int i1, .int i2, .int i3, .int i4, .int i5, .int i6, .int i7, .int i8, .int i9, .int (i10 ||| 0), .int i11, .int (i12 + 1)]) (by decide +kernel) rfl (by decide +kernel) rfl h
            have h := sp_goto (mi := 300) (pc := 167) (off := (-75)) (t := 92) (by decide +kernel) (by decide) rfl h
            exact h
          · refine ite_f hc ?_
            have h := sp_onk (i := .aload_n 0) (by decide +kernel) rfl h
            have h := sp_onk (i := .iload 7) (by decide +kernel) rfl h
            have h := sp_onk (i := .iload 11) (by decide +kernel) rfl h
            have h := sp_onk (i := .iload 12) (by decide +kernel) rfl h
            obtain ⟨r4, w5, hc, h⟩ := sp_callV (jj := 199) (mj := 231) (n := 3) (v := .ref 147) (args := [.int i12, .int i11, .int i7]) (ls' := [.ref 147, .int i7, .int i11, .int i12, pm_dead]) (by decide +kernel) (by decide +kernel) rfl rfl rfl h
            refine ⟨r4, w5, hc, fun x6 er hSw5 => ?_⟩
            subst er
            have h : PS X k 300 148 [.ref 147, .int i1, .int i2, .int i3, .int i4, .int i5, .int i6, .int i7, .int i8, .int i9, .int i10, .int i11, .int i12] [.int x6, .int i10] w5 r w' := h
            have h := sp_onk (i := .iload 6) (by decide +kernel) rfl h
            rcases sp_icmp_lt (mi := 300) (pc := 150) (off := 10) (t := 160) (by decide +kernel) (by decide) rfl h with ⟨hc, h⟩ | ⟨hc, h⟩
            · refine ite_t hc ?_
              have h := sp_iconst (n := 0) (v := 0) (by decide +kernel) (by decide +kernel) h
              have h := sp_onk (i := .ior) (by decide +kernel) rfl h
              have h := sp_istore (j := 10) (ls' := [.ref 147, .int i1, .int i2, .int i3, .int i4, .int i5, .int i6, .int i7, .int i8, .int i9, .int (i10 ||| 0), .int i11, .int i12]) (by decide +kernel) (Nat.le_of_ble_eq_true rfl) rfl h
              have h := sp_iinc (j := 12) (n := 1) (v := 1) (ls' := [.ref 147, .int i1, .int i2, .int i3, .int i4, .int i5, .int i6, .int i7, .int i8, .int i9, .int (i10 ||| 0), .int i11, .int (i12 + 1)]) (by decide +kernel) rfl (by decide +kernel) rfl h
              have h := sp_goto (mi := 300) (pc := 167) (off := (-75)) (t := 92) (by decide +kernel) (by decide) rfl h
              exact h
            · refine ite_f hc ?_
              have h := sp_iconst (n := 1) (v := 1) (by decide +kernel) (by decide +kernel) h
              have h := sp_onk (i := .iload 12) (by decide +kernel) rfl h
              have h := sp_onk (i := .ishl) (by decide +kernel) rfl h
              have h := sp_goto (mi := 300) (pc := 157) (off := 4) (t := 161) (by decide +kernel) (by decide) rfl h
              have h := sp_onk (i := .ior) (by decide +kernel) rfl h
              have h := sp_istore (j := 10) (ls' := [.ref 147, .int i1, .int i2, .int i3, .int i4, .int i5, .int i6, .int i7, .int i8, .int i9, .int (i10 ||| (1 <<< (i12 &&& 31))), .int i11, .int i12]) (by decide +kernel) (Nat.le_of_ble_eq_true rfl) rfl h
              have h := sp_iinc (j := 12) (n := 1) (v := 1) (ls' := [.ref 147, .int i1, .int i2, .int i3, .int i4, .int i5, .int i6, .int i7, .int i8, .int i9, .int (i10 ||| (1 <<< (i12 &&& 31))), .int i11, .int (i12 + 1)]) (by decide +kernel) rfl (by decide +kernel) rfl h
              have h := sp_goto (mi := 300) (pc := 167) (off := (-75)) (t := 92) (by decide +kernel) (by decide) rfl h
              exact h
