/-! ===== what pieces of methods leave (printed by us.py) ===== -/
set_option maxRecDepth 20000 in
set_option maxHeartbeats 2000000 in
theorem U131_0 {X : pm_X} {k : Nat} {w w' : pm_W} {r : Option Value} {p1 : Int32} {p2 : Int32} {p3 : Int32} {p4 : Int32} {p5 : Int32} (hS : SK w) (h : PS X (k + 1) 131 0 [.ref 0, .int p1, .int p2, .int p3, .int p4, .int p5] [] w r w') : ∃ (r1 : Option Value) (w2 : pm_W), PS X k 132 0 [.int p5] [] w r1 w2 ∧ (∀ x3 : Int32, r1 = some (.int x3) → SK w2 → (if x3 = 0 then (r = some (.int 0) ∧ w' = w2) else (∃ (r4 : Option Value) (w5 : pm_W), PS X k 98 0 [.ref 0, .int p1, .int p2, .int p3, pm_dead, pm_dead, pm_dead] [] w2 r4 w5 ∧ (∀ x6 : Int32, r4 = some (.int x6) → SK w5 → (if x6 = 0 then (r = some (.int 0) ∧ w' = w5) else (∃ (r7 : Option Value) (w8 : pm_W), PS X k 64 0 [.ref (gR w5 33 0), .int p4] [] w5 r7 w8 ∧ (∀ x9 : Int32, r7 = some (.int x9) → SK w8 → (if x9 = 0 then (r = some (.int 0) ∧ w' = w8) else (∃ (r10 : Option Value) (w11 : pm_W), PS X k 133 0 [.ref 55, .ref 33, .int p4, .int p5] [] w8 r10 w11 ∧ (∀ x12 : Int32, r10 = some (.int x12) → SK w11 → (r = some (.int x12) ∧ w' = w11))))))))))) := by
  have h := sp_one (i := .iload 5) (by decide +kernel) rfl h
  obtain ⟨r1, w2, hc, h⟩ := sp_callS (jj := 317) (mj := 132) (n := 1) (args := [.int p5]) (ls' := [.int p5]) (by decide +kernel) (by decide +kernel) (by decide +kernel) rfl rfl rfl h
  refine ⟨r1, w2, hc, fun x3 er hSw2 => ?_⟩
  subst er
  have h : PS X k 131 5 [.ref 0, .int p1, .int p2, .int p3, .int p4, .int p5] [.int x3] w2 r w' := h
  rcases sp_if_eq (mi := 131) (pc := 5) (off := 28) (t := 33) (by decide +kernel) (by decide) rfl h with ⟨hc, h⟩ | ⟨hc, h⟩
  · refine ite_t hc ?_
    have h := sp_iconst (n := 0) (v := 0) (by decide +kernel) (by decide +kernel) h
    exact sp_iret (by decide +kernel) h
  · refine ite_f hc ?_
    have h := sp_onk (i := .aload_n 0) (by decide +kernel) rfl h
    have h := sp_onk (i := .iload_n 1) (by decide +kernel) rfl h
    have h := sp_onk (i := .iload_n 2) (by decide +kernel) rfl h
    have h := sp_onk (i := .iload_n 3) (by decide +kernel) rfl h
    obtain ⟨r4, w5, hc, h⟩ := sp_callV (jj := 201) (mj := 98) (n := 3) (v := .ref 0) (args := [.int p3, .int p2, .int p1]) (ls' := [.ref 0, .int p1, .int p2, .int p3, pm_dead, pm_dead, pm_dead]) (by decide +kernel) (by decide +kernel) rfl rfl rfl h
    refine ⟨r4, w5, hc, fun x6 er hSw5 => ?_⟩
    subst er
    have h : PS X k 131 15 [.ref 0, .int p1, .int p2, .int p3, .int p4, .int p5] [.int x6] w5 r w' := h
    rcases sp_if_eq (mi := 131) (pc := 15) (off := 18) (t := 33) (by decide +kernel) (by decide) rfl h with ⟨hc, h⟩ | ⟨hc, h⟩
    · refine ite_t hc ?_
      have h := sp_iconst (n := 0) (v := 0) (by decide +kernel) (by decide +kernel) h
      exact sp_iret (by decide +kernel) h
    · refine ite_f hc ?_
      have h := sp_onk (i := .aload_n 0) (by decide +kernel) rfl h
      have h := sp_getK (jj := 34) (ci := 11) (n := 4) (b := 33) (by decide +kernel) (by decide +kernel) (by decide +kernel) (by decide +kernel) (by decide) hSw5 h
      have h := sp_getR (jj := 287) (ci := 7) (n := 0) (by decide +kernel) (by decide +kernel) (by decide +kernel) hSw5 h
      have h := sp_onk (i := .iload 4) (by decide +kernel) rfl h
      obtain ⟨r7, w8, hc, h⟩ := sp_callV (jj := 142) (mj := 64) (n := 1) (v := .ref (gR w5 33 0)) (args := [.int p4]) (ls' := [.ref (gR w5 33 0), .int p4]) (by decide +kernel) (by decide +kernel) rfl rfl rfl h
      refine ⟨r7, w8, hc, fun x9 er hSw8 => ?_⟩
      subst er
      have h : PS X k 131 30 [.ref 0, .int p1, .int p2, .int p3, .int p4, .int p5] [.int x9] w8 r w' := h
      rcases sp_if_ne (mi := 131) (pc := 30) (off := 5) (t := 35) (by decide +kernel) (by decide) rfl h with ⟨hc, h⟩ | ⟨hc, h⟩
      · refine ite_f hc ?_
        have h := sp_onk (i := .aload_n 0) (by decide +kernel) rfl h
        have h := sp_getK (jj := 48) (ci := 11) (n := 6) (b := 55) (by decide +kernel) (by decide +kernel) (by decide +kernel) (by decide +kernel) (by decide) hSw8 h
        have h := sp_onk (i := .aload_n 0) (by decide +kernel) rfl h
        have h := sp_getK (jj := 34) (ci := 11) (n := 4) (b := 33) (by decide +kernel) (by decide +kernel) (by decide +kernel) (by decide +kernel) (by decide) hSw8 h
        have h := sp_onk (i := .iload 4) (by decide +kernel) rfl h
        have h := sp_onk (i := .iload 5) (by decide +kernel) rfl h
        obtain ⟨r10, w11, hc, h⟩ := sp_callV (jj := 385) (mj := 133) (n := 3) (v := .ref 55) (args := [.int p5, .int p4, .ref 33]) (ls' := [.ref 55, .ref 33, .int p4, .int p5]) (by decide +kernel) (by decide +kernel) rfl rfl rfl h
        refine ⟨r10, w11, hc, fun x12 er hSw11 => ?_⟩
        subst er
        have h : PS X k 131 50 [.ref 0, .int p1, .int p2, .int p3, .int p4, .int p5] [.int x12] w11 r w' := h
        exact sp_iret (by decide +kernel) h
      · refine ite_t (Classical.not_not.mp hc) ?_
        have h := sp_iconst (n := 0) (v := 0) (by decide +kernel) (by decide +kernel) h
        exact sp_iret (by decide +kernel) h
set_option maxRecDepth 20000 in
set_option maxHeartbeats 2000000 in
theorem U132_0 {X : pm_X} {k : Nat} {w w' : pm_W} {r : Option Value} {p1 : Int32} (hS : SK w) (h : PS X (k + 1) 132 0 [.int p1] [] w r w') : if p1 = 0 then (r = some (.int 1) ∧ w' = w) else (if p1 = 1 then (r = some (.int 1) ∧ w' = w) else (if p1 = 2 then (r = some (.int 1) ∧ w' = w) else (r = some (.int 0) ∧ w' = w))) := by
  have h := sp_one (i := .iload_n 0) (by decide +kernel) rfl h
  rcases sp_if_eq (mi := 132) (pc := 1) (off := 13) (t := 14) (by decide +kernel) (by decide) rfl h with ⟨hc, h⟩ | ⟨hc, h⟩
  · refine ite_t hc ?_
    have h := sp_iconst (n := 1) (v := 1) (by decide +kernel) (by decide +kernel) h
    have h := sp_goto (mi := 132) (pc := 15) (off := 4) (t := 19) (by decide +kernel) (by decide) rfl h
    exact sp_iret (by decide +kernel) h
  · refine ite_f hc ?_
    have h := sp_onk (i := .iload_n 0) (by decide +kernel) rfl h
    have h := sp_iconst (n := 1) (v := 1) (by decide +kernel) (by decide +kernel) h
    rcases sp_icmp_eq (mi := 132) (pc := 6) (off := 8) (t := 14) (by decide +kernel) (by decide) rfl h with ⟨hc, h⟩ | ⟨hc, h⟩
    · refine ite_t hc ?_
      have h := sp_iconst (n := 1) (v := 1) (by decide +kernel) (by decide +kernel) h
      have h := sp_goto (mi := 132) (pc := 15) (off := 4) (t := 19) (by decide +kernel) (by decide) rfl h
      exact sp_iret (by decide +kernel) h
    · refine ite_f hc ?_
      have h := sp_onk (i := .iload_n 0) (by decide +kernel) rfl h
      have h := sp_iconst (n := 2) (v := 2) (by decide +kernel) (by decide +kernel) h
      rcases sp_icmp_ne (mi := 132) (pc := 11) (off := 7) (t := 18) (by decide +kernel) (by decide) rfl h with ⟨hc, h⟩ | ⟨hc, h⟩
      · refine ite_f hc ?_
        have h := sp_iconst (n := 0) (v := 0) (by decide +kernel) (by decide +kernel) h
        exact sp_iret (by decide +kernel) h
      · refine ite_t (Classical.not_not.mp hc) ?_
        have h := sp_iconst (n := 1) (v := 1) (by decide +kernel) (by decide +kernel) h
        have h := sp_goto (mi := 132) (pc := 15) (off := 4) (t := 19) (by decide +kernel) (by decide) rfl h
        exact sp_iret (by decide +kernel) h
