/-! ===== what pieces of methods leave (printed by us.py) ===== -/
set_option maxRecDepth 20000 in
set_option maxHeartbeats 2000000 in
theorem U182_0 {X : pm_X} {k : Nat} {w w' : pm_W} {r : Option Value} {p1 : Int32} (hS : SK w) (h : PS X (k + 1) 182 0 [.ref 68, .int p1] [] w r w') : ∃ (r1 : Option Value) (w2 : pm_W), PS X k 170 0 [.ref 68, .int p1, pm_dead, pm_dead, pm_dead, pm_dead, pm_dead, pm_dead] [] w r1 w2 ∧ (∀ x3 : Int32, r1 = some (.int x3) → SK w2 → (∃ (r4 : Option Value) (w5 : pm_W), PS X k 171 0 [.ref 68, .int 0, pm_dead, pm_dead, pm_dead] [] w2 r4 w5 ∧ (∀ x6 : Int32, r4 = some (.int x6) → SK w5 → (r = some (.int (x3 + x6)) ∧ w' = w5)))) := by
  have h := sp_one (i := .aload_n 0) (by decide +kernel) rfl h
  have h := sp_onk (i := .iload_n 1) (by decide +kernel) rfl h
  obtain ⟨r1, w2, hc, h⟩ := sp_callV (jj := 97) (mj := 170) (n := 1) (v := .ref 68) (args := [.int p1]) (ls' := [.ref 68, .int p1, pm_dead, pm_dead, pm_dead, pm_dead, pm_dead, pm_dead]) (by decide +kernel) (by decide +kernel) rfl rfl rfl h
  refine ⟨r1, w2, hc, fun x3 er hSw2 => ?_⟩
  subst er
  have h : PS X k 182 5 [.ref 68, .int p1] [.int x3] w2 r w' := h
  have h := sp_onk (i := .aload_n 0) (by decide +kernel) rfl h
  have h := sp_iconst (n := 0) (v := 0) (by decide +kernel) (by decide +kernel) h
  obtain ⟨r4, w5, hc, h⟩ := sp_callV (jj := 101) (mj := 171) (n := 1) (v := .ref 68) (args := [.int 0]) (ls' := [.ref 68, .int 0, pm_dead, pm_dead, pm_dead]) (by decide +kernel) (by decide +kernel) rfl rfl rfl h
  refine ⟨r4, w5, hc, fun x6 er hSw5 => ?_⟩
  subst er
  have h : PS X k 182 10 [.ref 68, .int p1] [.int x6, .int x3] w5 r w' := h
  have h := sp_onk (i := .iadd) (by decide +kernel) rfl h
  exact sp_iret (by decide +kernel) h
set_option maxRecDepth 20000 in
set_option maxHeartbeats 2000000 in
theorem U187_0 {X : pm_X} {k : Nat} {w w' : pm_W} {r : Option Value} {p1 : Int32} {p2 : Int32} {p3 : Int32} {p4 : Int32} {p5 : Int32} (hS : SK w) (h : PS X (k + 1) 187 0 [.ref 0, .int p1, .int p2, .int p3, .int p4, .int p5] [] w r w') : if p4 = p5 then (r = some (.int (-1)) ∧ w' = w) else (∃ (r1 : Option Value) (w2 : pm_W), PS X k 97 0 [.ref 0, .int p1, .int p2, .int p3, .int p4, .int p5] [] w r1 w2 ∧ (∀ x3 : Int32, r1 = some (.int x3) → SK w2 → (if x3 = 0 then (r = some (.int (-1)) ∧ w' = w2) else (∃ (r4 : Option Value) (w5 : pm_W), PS X k 159 0 [.ref 68, .ref 33, pm_dead, pm_dead] [] w2 r4 w5 ∧ (r4 = none → SK w5 → (∃ (r6 : Option Value) (w7 : pm_W), PS X k 188 0 [.ref 68, pm_dead] [] w5 r6 w7 ∧ (r6 = none → SK w7 → (∃ (r8 : Option Value) (w9 : pm_W), PS X k 189 0 [.ref 68, .int p4, .int p5, pm_dead, pm_dead] [] w7 r8 w9 ∧ (∀ x10 : Int32, r8 = some (.int x10) → SK w9 → (r = some (.int x10) ∧ w' = w9)))))))))) := by
  have h := sp_one (i := .iload 4) (by decide +kernel) rfl h
  have h := sp_onk (i := .iload 5) (by decide +kernel) rfl h
  rcases sp_icmp_eq (mi := 187) (pc := 4) (off := 17) (t := 21) (by decide +kernel) (by decide) rfl h with ⟨hc, h⟩ | ⟨hc, h⟩
  · refine ite_t hc ?_
    have h := sp_iconst (n := (-1)) (v := (-1)) (by decide +kernel) (by decide +kernel) h
    exact sp_iret (by decide +kernel) h
  · refine ite_f hc ?_
    have h := sp_onk (i := .aload_n 0) (by decide +kernel) rfl h
    have h := sp_onk (i := .iload_n 1) (by decide +kernel) rfl h
    have h := sp_onk (i := .iload_n 2) (by decide +kernel) rfl h
    have h := sp_onk (i := .iload_n 3) (by decide +kernel) rfl h
    have h := sp_onk (i := .iload 4) (by decide +kernel) rfl h
    have h := sp_onk (i := .iload 5) (by decide +kernel) rfl h
    obtain ⟨r1, w2, hc, h⟩ := sp_callV (jj := 182) (mj := 97) (n := 5) (v := .ref 0) (args := [.int p5, .int p4, .int p3, .int p2, .int p1]) (ls' := [.ref 0, .int p1, .int p2, .int p3, .int p4, .int p5]) (by decide +kernel) (by decide +kernel) rfl rfl rfl h
    refine ⟨r1, w2, hc, fun x3 er hSw2 => ?_⟩
    subst er
    have h : PS X k 187 18 [.ref 0, .int p1, .int p2, .int p3, .int p4, .int p5] [.int x3] w2 r w' := h
    rcases sp_if_ne (mi := 187) (pc := 18) (off := 5) (t := 23) (by decide +kernel) (by decide) rfl h with ⟨hc, h⟩ | ⟨hc, h⟩
    · refine ite_f hc ?_
      have h := sp_onk (i := .aload_n 0) (by decide +kernel) rfl h
      have h := sp_getK (jj := 55) (ci := 11) (n := 7) (b := 68) (by decide +kernel) (by decide +kernel) (by decide +kernel) (by decide +kernel) (by decide) hSw2 h
      have h := sp_onk (i := .aload_n 0) (by decide +kernel) rfl h
      have h := sp_getK (jj := 34) (ci := 11) (n := 4) (b := 33) (by decide +kernel) (by decide +kernel) (by decide +kernel) (by decide +kernel) (by decide) hSw2 h
      obtain ⟨r4, w5, hc, h⟩ := sp_callV (jj := 338) (mj := 159) (n := 1) (v := .ref 68) (args := [.ref 33]) (ls' := [.ref 68, .ref 33, pm_dead, pm_dead]) (by decide +kernel) (by decide +kernel) rfl rfl rfl h
      refine ⟨r4, w5, hc, fun er hSw5 => ?_⟩
      subst er
      have h : PS X k 187 34 [.ref 0, .int p1, .int p2, .int p3, .int p4, .int p5] [] w5 r w' := h
      have h := sp_onk (i := .aload_n 0) (by decide +kernel) rfl h
      have h := sp_getK (jj := 55) (ci := 11) (n := 7) (b := 68) (by decide +kernel) (by decide +kernel) (by decide +kernel) (by decide +kernel) (by decide) hSw5 h
      obtain ⟨r6, w7, hc, h⟩ := sp_callV (jj := 373) (mj := 188) (n := 0) (v := .ref 68) (args := []) (ls' := [.ref 68, pm_dead]) (by decide +kernel) (by decide +kernel) rfl rfl rfl h
      refine ⟨r6, w7, hc, fun er hSw7 => ?_⟩
      subst er
      have h : PS X k 187 41 [.ref 0, .int p1, .int p2, .int p3, .int p4, .int p5] [] w7 r w' := h
      have h := sp_onk (i := .aload_n 0) (by decide +kernel) rfl h
      have h := sp_getK (jj := 55) (ci := 11) (n := 7) (b := 68) (by decide +kernel) (by decide +kernel) (by decide +kernel) (by decide +kernel) (by decide) hSw7 h
      have h := sp_onk (i := .iload 4) (by decide +kernel) rfl h
      have h := sp_onk (i := .iload 5) (by decide +kernel) rfl h
      obtain ⟨r8, w9, hc, h⟩ := sp_callV (jj := 376) (mj := 189) (n := 2) (v := .ref 68) (args := [.int p5, .int p4]) (ls' := [.ref 68, .int p4, .int p5, pm_dead, pm_dead]) (by decide +kernel) (by decide +kernel) rfl rfl rfl h
      refine ⟨r8, w9, hc, fun x10 er hSw9 => ?_⟩
      subst er
      have h : PS X k 187 52 [.ref 0, .int p1, .int p2, .int p3, .int p4, .int p5] [.int x10] w9 r w' := h
      exact sp_iret (by decide +kernel) h
    · refine ite_t (Classical.not_not.mp hc) ?_
      have h := sp_iconst (n := (-1)) (v := (-1)) (by decide +kernel) (by decide +kernel) h
      exact sp_iret (by decide +kernel) h
set_option maxRecDepth 20000 in
set_option maxHeartbeats 2000000 in
theorem U188_0 {X : pm_X} {k : Nat} {w w' : pm_W} {r : Option Value} (hS : SK w) (h : PS X (k + 1) 188 0 [.ref 68, pm_dead] [] w r w') : ∃ (r1 : Option Value) (w2 : pm_W), PS X k 174 0 [.ref 68, .int 0, pm_dead, pm_dead] [] w r1 w2 ∧ (∀ x3 : Int32, r1 = some (.int x3) → SK w2 → (aI w2 77 x3 ∧ (∀ w4 : pm_W, w4 = sI w2 68 8 (aG w2 77 x3) → (PS X k 188 16 [.ref 68, .int 0] [] w4 r w')))) := by
  have h := sp_one (i := .aload_n 0) (by decide +kernel) rfl h
  have h := sp_onk (i := .aload_n 0) (by decide +kernel) rfl h
  have h := sp_getK (jj := 28) (ci := 10) (n := 4) (b := 77) (by decide +kernel) (by decide +kernel) (by decide +kernel) (by decide +kernel) (by decide) hS h
  have h := sp_onk (i := .aload_n 0) (by decide +kernel) rfl h
  have h := sp_iconst (n := 0) (v := 0) (by decide +kernel) (by decide +kernel) h
  obtain ⟨r1, w2, hc, h⟩ := sp_callV (jj := 115) (mj := 174) (n := 1) (v := .ref 68) (args := [.int 0]) (ls' := [.ref 68, .int 0, pm_dead, pm_dead]) (by decide +kernel) (by decide +kernel) rfl rfl rfl h
  refine ⟨r1, w2, hc, fun x3 er hSw2 => ?_⟩
  subst er
  have h : PS X k 188 10 [.ref 68, pm_dead] [.int x3, .ref 77, .ref 68] w2 r w' := h
  obtain ⟨hi, h⟩ := sp_iald (by decide +kernel) h
  refine ⟨hi, ?_⟩
  have h := sp_putI (jj := 118) (ci := 10) (n := 8) (ty := .int) (by decide +kernel) (by decide +kernel) (by decide +kernel) hSw2 h
  intro w4 ew4
  rw [← ew4] at h
  have hSw4 : SK w4 := by rw [ew4]; exact SK_sI hSw2
  have h := sp_iconst (n := 0) (v := 0) (by decide +kernel) (by decide +kernel) h
  have h := sp_istore_n (j := 1) (ls' := [.ref 68, .int 0]) (by decide +kernel) (Nat.le_of_ble_eq_true rfl) rfl h
  exact h
set_option maxRecDepth 20000 in
set_option maxHeartbeats 2000000 in
theorem U188_16 {X : pm_X} {k : Nat} {w w' : pm_W} {r : Option Value} {i1 : Int32} (hS : SK w) (h : PS X (k + 1) 188 16 [.ref 68, .int i1] [] w r w') : if (gI w 68 7) ≤ i1 then (r = none ∧ w' = w) else (aI w 77 i1 ∧ (if (aG w 77 i1) ≤ (gI w 68 8) then (aI w 78 i1 ∧ (∀ w1 : pm_W, w1 = aB w 78 i1 0 → (PS X k 188 16 [.ref 68, .int (i1 + 1)] [] w1 r w'))) else (∃ (r2 : Option Value) (w3 : pm_W), PS X k 182 0 [.ref 68, .int i1] [] w r2 w3 ∧ (∀ x4 : Int32, r2 = some (.int x4) → SK w3 → (if x4 = 1 then (aI w3 78 i1 ∧ (∀ w6 : pm_W, w6 = aB w3 78 i1 1 → (PS X k 188 16 [.ref 68, .int (i1 + 1)] [] w6 r w'))) else (aI w3 78 i1 ∧ (∀ w5 : pm_W, w5 = aB w3 78 i1 0 → (PS X k 188 16 [.ref 68, .int (i1 + 1)] [] w5 r w')))))))) := by
  have h := sp_one (i := .iload_n 1) (by decide +kernel) rfl h
  have h := sp_onk (i := .aload_n 0) (by decide +kernel) rfl h
  have h := sp_getI (jj := 63) (ci := 10) (n := 7) (by decide +kernel) (by decide +kernel) (by decide +kernel) hS h
  rcases sp_icmp_ge (mi := 188) (pc := 21) (off := 42) (t := 63) (by decide +kernel) (by decide) rfl h with ⟨hc, h⟩ | ⟨hc, h⟩
  · refine ite_t hc ?_
    exact sp_vret (by decide +kernel) h
  · refine ite_f hc ?_
    have h := sp_onk (i := .aload_n 0) (by decide +kernel) rfl h
    have h := sp_getK (jj := 31) (ci := 10) (n := 5) (b := 78) (by decide +kernel) (by decide +kernel) (by decide +kernel) (by decide +kernel) (by decide) hS h
    have h := sp_onk (i := .iload_n 1) (by decide +kernel) rfl h
    have h := sp_onk (i := .aload_n 0) (by decide +kernel) rfl h
    have h := sp_getK (jj := 28) (ci := 10) (n := 4) (b := 77) (by decide +kernel) (by decide +kernel) (by decide +kernel) (by decide +kernel) (by decide) hS h
    have h := sp_onk (i := .iload_n 1) (by decide +kernel) rfl h
    obtain ⟨hi, h⟩ := sp_iald (by decide +kernel) h
    refine ⟨hi, ?_⟩
    have h := sp_onk (i := .aload_n 0) (by decide +kernel) rfl h
    have h := sp_getI (jj := 118) (ci := 10) (n := 8) (by decide +kernel) (by decide +kernel) (by decide +kernel) hS h
    rcases sp_icmp_le (mi := 188) (pc := 39) (off := 16) (t := 55) (by decide +kernel) (by decide) rfl h with ⟨hc, h⟩ | ⟨hc, h⟩
    · refine ite_t hc ?_
      have h := sp_iconst (n := 0) (v := 0) (by decide +kernel) (by decide +kernel) h
      obtain ⟨hi, h⟩ := sp_bast (by decide +kernel) h
      refine ⟨hi, ?_⟩
      intro w1 ew1
      rw [← ew1] at h
      have hSw1 : SK w1 := by rw [ew1]; exact SK_aB hS
      have h := sp_iinc (j := 1) (n := 1) (v := 1) (ls' := [.ref 68, .int (i1 + 1)]) (by decide +kernel) rfl (by decide +kernel) rfl h
      have h := sp_goto (mi := 188) (pc := 60) (off := (-44)) (t := 16) (by decide +kernel) (by decide) rfl h
      exact h
    · refine ite_f hc ?_
      have h := sp_onk (i := .aload_n 0) (by decide +kernel) rfl h
      have h := sp_onk (i := .iload_n 1) (by decide +kernel) rfl h
      obtain ⟨r2, w3, hc, h⟩ := sp_callV (jj := 121) (mj := 182) (n := 1) (v := .ref 68) (args := [.int i1]) (ls' := [.ref 68, .int i1]) (by decide +kernel) (by decide +kernel) rfl rfl rfl h
      refine ⟨r2, w3, hc, fun x4 er hSw3 => ?_⟩
      subst er
      have h : PS X k 188 47 [.ref 68, .int i1] [.int x4, .int i1, .ref 78] w3 r w' := h
      have h := sp_iconst (n := 1) (v := 1) (by decide +kernel) (by decide +kernel) h
      rcases sp_icmp_ne (mi := 188) (pc := 48) (off := 7) (t := 55) (by decide +kernel) (by decide) rfl h with ⟨hc, h⟩ | ⟨hc, h⟩
      · refine ite_f hc ?_
        have h := sp_iconst (n := 0) (v := 0) (by decide +kernel) (by decide +kernel) h
        obtain ⟨hi, h⟩ := sp_bast (by decide +kernel) h
        refine ⟨hi, ?_⟩
        intro w5 ew5
        rw [← ew5] at h
        have hSw5 : SK w5 := by rw [ew5]; exact SK_aB hSw3
        have h := sp_iinc (j := 1) (n := 1) (v := 1) (ls' := [.ref 68, .int (i1 + 1)]) (by decide +kernel) rfl (by decide +kernel) rfl h
        have h := sp_goto (mi := 188) (pc := 60) (off := (-44)) (t := 16) (by decide +kernel) (by decide) rfl h
        exact h
      · refine ite_t (Classical.not_not.mp hc) ?_
        have h := sp_iconst (n := 1) (v := 1) (by decide +kernel) (by decide +kernel) h
        have h := sp_goto (mi := 188) (pc := 52) (off := 4) (t := 56) (by decide +kernel) (by decide) rfl h
        obtain ⟨hi, h⟩ := sp_bast (by decide +kernel) h
        refine ⟨hi, ?_⟩
        intro w6 ew6
        rw [← ew6] at h
        have hSw6 : SK w6 := by rw [ew6]; exact SK_aB hSw3
        have h := sp_iinc (j := 1) (n := 1) (v := 1) (ls' := [.ref 68, .int (i1 + 1)]) (by decide +kernel) rfl (by decide +kernel) rfl h
        have h := sp_goto (mi := 188) (pc := 60) (off := (-44)) (t := 16) (by decide +kernel) (by decide) rfl h
        exact h
set_option maxRecDepth 20000 in
set_option maxHeartbeats 2000000 in
theorem U189_0 {X : pm_X} {k : Nat} {w w' : pm_W} {r : Option Value} {p1 : Int32} {p2 : Int32} (hS : SK w) (h : PS X (k + 1) 189 0 [.ref 68, .int p1, .int p2, pm_dead, pm_dead] [] w r w') : ∃ (r1 : Option Value) (w2 : pm_W), PS X k 52 0 [.int p1, .int p2] [] w r1 w2 ∧ (∀ x3 : Int32, r1 = some (.int x3) → SK w2 → (aI w2 74 x3 ∧ (aI w2 74 x3 ∧ (∀ w4 : pm_W, w4 = aS w2 74 x3 ((aG w2 74 x3) + 1) → (PS X k 189 22 [.ref 68, .int p1, .int p2, .int (gI w 68 8), .int 0] [] w4 r w'))))) := by
  have h := sp_one (i := .aload_n 0) (by decide +kernel) rfl h
  have h := sp_getI (jj := 118) (ci := 10) (n := 8) (by decide +kernel) (by decide +kernel) (by decide +kernel) hS h
  have h := sp_istore_n (j := 3) (ls' := [.ref 68, .int p1, .int p2, .int (gI w 68 8), pm_dead]) (by decide +kernel) (Nat.le_of_ble_eq_true rfl) rfl h
  have h := sp_onk (i := .aload_n 0) (by decide +kernel) rfl h
  have h := sp_getK (jj := 18) (ci := 10) (n := 1) (b := 74) (by decide +kernel) (by decide +kernel) (by decide +kernel) (by decide +kernel) (by decide) hS h
  have h := sp_onk (i := .iload_n 1) (by decide +kernel) rfl h
  have h := sp_onk (i := .iload_n 2) (by decide +kernel) rfl h
  obtain ⟨r1, w2, hc, h⟩ := sp_callS (jj := 53) (mj := 52) (n := 2) (args := [.int p2, .int p1]) (ls' := [.int p1, .int p2]) (by decide +kernel) (by decide +kernel) (by decide +kernel) rfl rfl rfl h
  refine ⟨r1, w2, hc, fun x3 er hSw2 => ?_⟩
  subst er
  have h : PS X k 189 14 [.ref 68, .int p1, .int p2, .int (gI w 68 8), pm_dead] [.int x3, .ref 74] w2 r w' := h
  have h := sp_onk (i := .dup2) (by decide +kernel) rfl h
  obtain ⟨hi, h⟩ := sp_iald (by decide +kernel) h
  refine ⟨hi, ?_⟩
  have h := sp_iconst (n := 1) (v := 1) (by decide +kernel) (by decide +kernel) h
  have h := sp_onk (i := .iadd) (by decide +kernel) rfl h
  obtain ⟨hi, h⟩ := sp_iast (by decide +kernel) h
  refine ⟨hi, ?_⟩
  intro w4 ew4
  rw [← ew4] at h
  have hSw4 : SK w4 := by rw [ew4]; exact SK_aS hSw2
  have h := sp_iconst (n := 0) (v := 0) (by decide +kernel) (by decide +kernel) h
  have h := sp_istore (j := 4) (ls' := [.ref 68, .int p1, .int p2, .int (gI w 68 8), .int 0]) (by decide +kernel) (Nat.le_of_ble_eq_true rfl) rfl h
  exact h
set_option maxRecDepth 20000 in
set_option maxHeartbeats 2000000 in
theorem U189_22 {X : pm_X} {k : Nat} {w w' : pm_W} {r : Option Value} {i1 : Int32} {i2 : Int32} {i3 : Int32} {i4 : Int32} (hS : SK w) (h : PS X (k + 1) 189 22 [.ref 68, .int i1, .int i2, .int i3, .int i4] [] w r w') : if (gI w 68 7) ≤ i4 then (∃ (r1 : Option Value) (w2 : pm_W), PS X k 52 0 [.int i1, .int i2] [] w r1 w2 ∧ (∀ x3 : Int32, r1 = some (.int x3) → SK w2 → (aI w2 74 x3 ∧ (aI w2 74 x3 ∧ (∀ w4 : pm_W, w4 = aS w2 74 x3 ((aG w2 74 x3) - 1) → (r = some (.int (i3 - (gI w4 68 8))) ∧ w' = w4)))))) else (aI w 78 i4 ∧ (if (aG w 78 i4) = 0 then (PS X k 189 22 [.ref 68, .int i1, .int i2, .int i3, .int (i4 + 1)] [] w r w') else (aI w 77 i4 ∧ (if (aG w 77 i4) ≤ i3 then (PS X k 189 22 [.ref 68, .int i1, .int i2, .int i3, .int (i4 + 1)] [] w r w') else (∃ (r5 : Option Value) (w6 : pm_W), PS X k 169 0 [.ref 68, .int i4, .int 0] [] w r5 w6 ∧ (∀ x7 : Int32, r5 = some (.int x7) → SK w6 → (if x7 = 0 then (PS X k 189 22 [.ref 68, .int i1, .int i2, .int i3, .int (i4 + 1)] [] w6 r w') else (aI w6 77 i4 ∧ (PS X k 189 22 [.ref 68, .int i1, .int i2, .int (aG w6 77 i4), .int (i4 + 1)] [] w6 r w'))))))))) := by
  have h := sp_one (i := .iload 4) (by decide +kernel) rfl h
  have h := sp_onk (i := .aload_n 0) (by decide +kernel) rfl h
  have h := sp_getI (jj := 63) (ci := 10) (n := 7) (by decide +kernel) (by decide +kernel) (by decide +kernel) hS h
  rcases sp_icmp_ge (mi := 189) (pc := 28) (off := 48) (t := 76) (by decide +kernel) (by decide) rfl h with ⟨hc, h⟩ | ⟨hc, h⟩
  · refine ite_t hc ?_
    have h := sp_onk (i := .aload_n 0) (by decide +kernel) rfl h
    have h := sp_getK (jj := 18) (ci := 10) (n := 1) (b := 74) (by decide +kernel) (by decide +kernel) (by decide +kernel) (by decide +kernel) (by decide) hS h
    have h := sp_onk (i := .iload_n 1) (by decide +kernel) rfl h
    have h := sp_onk (i := .iload_n 2) (by decide +kernel) rfl h
    obtain ⟨r1, w2, hc, h⟩ := sp_callS (jj := 53) (mj := 52) (n := 2) (args := [.int i2, .int i1]) (ls' := [.int i1, .int i2]) (by decide +kernel) (by decide +kernel) (by decide +kernel) rfl rfl rfl h
    refine ⟨r1, w2, hc, fun x3 er hSw2 => ?_⟩
    subst er
    have h : PS X k 189 85 [.ref 68, .int i1, .int i2, .int i3, .int i4] [.int x3, .ref 74] w2 r w' := h
    have h := sp_onk (i := .dup2) (by decide +kernel) rfl h
    obtain ⟨hi, h⟩ := sp_iald (by decide +kernel) h
    refine ⟨hi, ?_⟩
    have h := sp_iconst (n := 1) (v := 1) (by decide +kernel) (by decide +kernel) h
    have h := sp_onk (i := .isub) (by decide +kernel) rfl h
    obtain ⟨hi, h⟩ := sp_iast (by decide +kernel) h
    refine ⟨hi, ?_⟩
    intro w4 ew4
    rw [← ew4] at h
    have hSw4 : SK w4 := by rw [ew4]; exact SK_aS hSw2
    have h := sp_onk (i := .iload_n 3) (by decide +kernel) rfl h
    have h := sp_onk (i := .aload_n 0) (by decide +kernel) rfl h
    have h := sp_getI (jj := 118) (ci := 10) (n := 8) (by decide +kernel) (by decide +kernel) (by decide +kernel) hSw4 h
    have h := sp_onk (i := .isub) (by decide +kernel) rfl h
    exact sp_iret (by decide +kernel) h
  · refine ite_f hc ?_
    have h := sp_onk (i := .aload_n 0) (by decide +kernel) rfl h
    have h := sp_getK (jj := 31) (ci := 10) (n := 5) (b := 78) (by decide +kernel) (by decide +kernel) (by decide +kernel) (by decide +kernel) (by decide) hS h
    have h := sp_onk (i := .iload 4) (by decide +kernel) rfl h
    obtain ⟨hi, h⟩ := sp_bald (by decide +kernel) h
    refine ⟨hi, ?_⟩
    rcases sp_if_eq (mi := 189) (pc := 38) (off := 32) (t := 70) (by decide +kernel) (by decide) rfl h with ⟨hc, h⟩ | ⟨hc, h⟩
    · refine ite_t hc ?_
      have h := sp_iinc (j := 4) (n := 1) (v := 1) (ls' := [.ref 68, .int i1, .int i2, .int i3, .int (i4 + 1)]) (by decide +kernel) rfl (by decide +kernel) rfl h
      have h := sp_goto (mi := 189) (pc := 73) (off := (-51)) (t := 22) (by decide +kernel) (by decide) rfl h
      exact h
    · refine ite_f hc ?_
      have h := sp_onk (i := .aload_n 0) (by decide +kernel) rfl h
      have h := sp_getK (jj := 28) (ci := 10) (n := 4) (b := 77) (by decide +kernel) (by decide +kernel) (by decide +kernel) (by decide +kernel) (by decide) hS h
      have h := sp_onk (i := .iload 4) (by decide +kernel) rfl h
      obtain ⟨hi, h⟩ := sp_iald (by decide +kernel) h
      refine ⟨hi, ?_⟩
      have h := sp_onk (i := .iload_n 3) (by decide +kernel) rfl h
      rcases sp_icmp_le (mi := 189) (pc := 49) (off := 21) (t := 70) (by decide +kernel) (by decide) rfl h with ⟨hc, h⟩ | ⟨hc, h⟩
      · refine ite_t hc ?_
        have h := sp_iinc (j := 4) (n := 1) (v := 1) (ls' := [.ref 68, .int i1, .int i2, .int i3, .int (i4 + 1)]) (by decide +kernel) rfl (by decide +kernel) rfl h
        have h := sp_goto (mi := 189) (pc := 73) (off := (-51)) (t := 22) (by decide +kernel) (by decide) rfl h
        exact h
      · refine ite_f hc ?_
        have h := sp_onk (i := .aload_n 0) (by decide +kernel) rfl h
        have h := sp_onk (i := .iload 4) (by decide +kernel) rfl h
        have h := sp_iconst (n := 0) (v := 0) (by decide +kernel) (by decide +kernel) h
        obtain ⟨r5, w6, hc, h⟩ := sp_callV (jj := 107) (mj := 169) (n := 2) (v := .ref 68) (args := [.int 0, .int i4]) (ls' := [.ref 68, .int i4, .int 0]) (by decide +kernel) (by decide +kernel) rfl rfl rfl h
        refine ⟨r5, w6, hc, fun x7 er hSw6 => ?_⟩
        subst er
        have h : PS X k 189 59 [.ref 68, .int i1, .int i2, .int i3, .int i4] [.int x7] w6 r w' := h
        rcases sp_if_eq (mi := 189) (pc := 59) (off := 11) (t := 70) (by decide +kernel) (by decide) rfl h with ⟨hc, h⟩ | ⟨hc, h⟩
        · refine ite_t hc ?_
          have h := sp_iinc (j := 4) (n := 1) (v := 1) (ls' := [.ref 68, .int i1, .int i2, .int i3, .int (i4 + 1)]) (by decide +kernel) rfl (by decide +kernel) rfl h
          have h := sp_goto (mi := 189) (pc := 73) (off := (-51)) (t := 22) (by decide +kernel) (by decide) rfl h
          exact h
        · refine ite_f hc ?_
          have h := sp_onk (i := .aload_n 0) (by decide +kernel) rfl h
          have h := sp_getK (jj := 28) (ci := 10) (n := 4) (b := 77) (by decide +kernel) (by decide +kernel) (by decide +kernel) (by decide +kernel) (by decide) hSw6 h
          have h := sp_onk (i := .iload 4) (by decide +kernel) rfl h
          obtain ⟨hi, h⟩ := sp_iald (by decide +kernel) h
          refine ⟨hi, ?_⟩
          have h := sp_istore_n (j := 3) (ls' := [.ref 68, .int i1, .int i2, .int (aG w6 77 i4), .int i4]) (by decide +kernel) (Nat.le_of_ble_eq_true rfl) rfl h
          have h := sp_iinc (j := 4) (n := 1) (v := 1) (ls' := [.ref 68, .int i1, .int i2, .int (aG w6 77 i4), .int (i4 + 1)]) (by decide +kernel) rfl (by decide +kernel) rfl h
          have h := sp_goto (mi := 189) (pc := 73) (off := (-51)) (t := 22) (by decide +kernel) (by decide) rfl h
          exact h
set_option maxRecDepth 20000 in
set_option maxHeartbeats 2000000 in
theorem U190_0 {X : pm_X} {k : Nat} {w w' : pm_W} {r : Option Value} {p1 : Int32} {p2 : Int32} {p3 : Int32} {p4 : Int32} (hS : SK w) (h : PS X (k + 1) 190 0 [.ref 0, .int p1, .int p2, .int p3, .int p4, pm_dead] [] w r w') : ∃ (r1 : Option Value) (w2 : pm_W), PS X k 173 0 [.ref 0, .int p1, .int p2, .int p3] [] w r1 w2 ∧ (∀ x3 : Int32, r1 = some (.int x3) → SK w2 → (if x3 = 0 then (r = some (.int (-1)) ∧ w' = w2) else (∃ (r4 : Option Value) (w5 : pm_W), PS X k 188 0 [.ref 68, pm_dead] [] w2 r4 w5 ∧ (r4 = none → SK w5 → (∃ (r6 : Option Value) (w7 : pm_W), PS X k 191 0 [.ref 68, pm_dead, pm_dead, pm_dead, pm_dead, pm_dead] [] w5 r6 w7 ∧ (∀ x8 : Int32, r6 = some (.int x8) → SK w7 → (if x8 = (-1) then (r = some (.int (-1)) ∧ w' = w7) else (if p4 = 0 then (r = some (.int (x8 / 9)) ∧ w' = w7) else (r = some (.int (x8 - x8 / 9 * 9)) ∧ w' = w7))))))))) := by
  have h := sp_one (i := .aload_n 0) (by decide +kernel) rfl h
  have h := sp_onk (i := .iload_n 1) (by decide +kernel) rfl h
  have h := sp_onk (i := .iload_n 2) (by decide +kernel) rfl h
  have h := sp_onk (i := .iload_n 3) (by decide +kernel) rfl h
  obtain ⟨r1, w2, hc, h⟩ := sp_callV (jj := 351) (mj := 173) (n := 3) (v := .ref 0) (args := [.int p3, .int p2, .int p1]) (ls' := [.ref 0, .int p1, .int p2, .int p3]) (by decide +kernel) (by decide +kernel) rfl rfl rfl h
  refine ⟨r1, w2, hc, fun x3 er hSw2 => ?_⟩
  subst er
  have h : PS X k 190 7 [.ref 0, .int p1, .int p2, .int p3, .int p4, pm_dead] [.int x3] w2 r w' := h
  rcases sp_if_ne (mi := 190) (pc := 7) (off := 5) (t := 12) (by decide +kernel) (by decide) rfl h with ⟨hc, h⟩ | ⟨hc, h⟩
  · refine ite_f hc ?_
    have h := sp_onk (i := .aload_n 0) (by decide +kernel) rfl h
    have h := sp_getK (jj := 55) (ci := 11) (n := 7) (b := 68) (by decide +kernel) (by decide +kernel) (by decide +kernel) (by decide +kernel) (by decide) hSw2 h
    obtain ⟨r4, w5, hc, h⟩ := sp_callV (jj := 373) (mj := 188) (n := 0) (v := .ref 68) (args := []) (ls' := [.ref 68, pm_dead]) (by decide +kernel) (by decide +kernel) rfl rfl rfl h
    refine ⟨r4, w5, hc, fun er hSw5 => ?_⟩
    subst er
    have h : PS X k 190 19 [.ref 0, .int p1, .int p2, .int p3, .int p4, pm_dead] [] w5 r w' := h
    have h := sp_onk (i := .aload_n 0) (by decide +kernel) rfl h
    have h := sp_getK (jj := 55) (ci := 11) (n := 7) (b := 68) (by decide +kernel) (by decide +kernel) (by decide +kernel) (by decide +kernel) (by decide) hSw5 h
    obtain ⟨r6, w7, hc, h⟩ := sp_callV (jj := 379) (mj := 191) (n := 0) (v := .ref 68) (args := []) (ls' := [.ref 68, pm_dead, pm_dead, pm_dead, pm_dead, pm_dead]) (by decide +kernel) (by decide +kernel) rfl rfl rfl h
    refine ⟨r6, w7, hc, fun x8 er hSw7 => ?_⟩
    subst er
    have h : PS X k 190 26 [.ref 0, .int p1, .int p2, .int p3, .int p4, pm_dead] [.int x8] w7 r w' := h
    have h := sp_istore (j := 5) (ls' := [.ref 0, .int p1, .int p2, .int p3, .int p4, .int x8]) (by decide +kernel) (Nat.le_of_ble_eq_true rfl) rfl h
    have h := sp_onk (i := .iload 5) (by decide +kernel) rfl h
    have h := sp_iconst (n := (-1)) (v := (-1)) (by decide +kernel) (by decide +kernel) h
    rcases sp_icmp_ne (mi := 190) (pc := 31) (off := 5) (t := 36) (by decide +kernel) (by decide) rfl h with ⟨hc, h⟩ | ⟨hc, h⟩
    · refine ite_f hc ?_
      have h := sp_onk (i := .iload 4) (by decide +kernel) rfl h
      rcases sp_if_eq (mi := 190) (pc := 38) (off := 11) (t := 49) (by decide +kernel) (by decide) rfl h with ⟨hc, h⟩ | ⟨hc, h⟩
      · refine ite_t hc ?_
        have h := sp_onk (i := .iload 5) (by decide +kernel) rfl h
        have h := sp_bipush (n := 9) (v := 9) (by decide +kernel) (by decide +kernel) h
        have h := sp_idiv (by decide +kernel) h
        exact sp_iret (by decide +kernel) h
      · refine ite_f hc ?_
        have h := sp_onk (i := .iload 5) (by decide +kernel) rfl h
        have h := sp_bipush (n := 9) (v := 9) (by decide +kernel) (by decide +kernel) h
        have h := sp_irem (by decide +kernel) h
        have h := sp_goto (mi := 190) (pc := 46) (off := 8) (t := 54) (by decide +kernel) (by decide) rfl h
        exact sp_iret (by decide +kernel) h
    · refine ite_t (Classical.not_not.mp hc) ?_
      have h := sp_iconst (n := (-1)) (v := (-1)) (by decide +kernel) (by decide +kernel) h
      exact sp_iret (by decide +kernel) h
  · refine ite_t (Classical.not_not.mp hc) ?_
    have h := sp_iconst (n := (-1)) (v := (-1)) (by decide +kernel) (by decide +kernel) h
    exact sp_iret (by decide +kernel) h
set_option maxRecDepth 20000 in
set_option maxHeartbeats 2000000 in
theorem U191_0 {X : pm_X} {k : Nat} {w w' : pm_W} {r : Option Value} (hS : SK w) (h : PS X (k + 1) 191 0 [.ref 68, pm_dead, pm_dead, pm_dead, pm_dead, pm_dead] [] w r w') : PS X k 191 6 [.ref 68, .int (-1), .int 0, .int 0, pm_dead, pm_dead] [] w r w' := by
  have h := sp_iconst1 (n := (-1)) (v := (-1)) (by decide +kernel) (by decide +kernel) h
  have h := sp_istore_n (j := 1) (ls' := [.ref 68, .int (-1), pm_dead, pm_dead, pm_dead, pm_dead]) (by decide +kernel) (Nat.le_of_ble_eq_true rfl) rfl h
  have h := sp_iconst (n := 0) (v := 0) (by decide +kernel) (by decide +kernel) h
  have h := sp_istore_n (j := 2) (ls' := [.ref 68, .int (-1), .int 0, pm_dead, pm_dead, pm_dead]) (by decide +kernel) (Nat.le_of_ble_eq_true rfl) rfl h
  have h := sp_iconst (n := 0) (v := 0) (by decide +kernel) (by decide +kernel) h
  have h := sp_istore_n (j := 3) (ls' := [.ref 68, .int (-1), .int 0, .int 0, pm_dead, pm_dead]) (by decide +kernel) (Nat.le_of_ble_eq_true rfl) rfl h
  exact h
set_option maxRecDepth 20000 in
set_option maxHeartbeats 2000000 in
theorem U191_6 {X : pm_X} {k : Nat} {w w' : pm_W} {r : Option Value} {i1 : Int32} {i2 : Int32} {i3 : Int32} {u4 : Value} {u5 : Value} (hS : SK w) (h : PS X (k + 1) 191 6 [.ref 68, .int i1, .int i2, .int i3, u4, u5] [] w r w') : if (gI w (gR w 68 0) 0) ≤ i3 then (r = some (.int i1) ∧ w' = w) else (PS X k 191 20 [.ref 68, .int i1, .int i2, .int i3, .int 0, u5] [] w r w') := by
  have h := sp_one (i := .iload_n 3) (by decide +kernel) rfl h
  have h := sp_onk (i := .aload_n 0) (by decide +kernel) rfl h
  have h := sp_getR (jj := 12) (ci := 10) (n := 0) (by decide +kernel) (by decide +kernel) (by decide +kernel) hS h
  have h := sp_getI (jj := 49) (ci := 9) (n := 0) (by decide +kernel) (by decide +kernel) (by decide +kernel) hS h
  rcases sp_icmp_ge (mi := 191) (pc := 14) (off := 65) (t := 79) (by decide +kernel) (by decide) rfl h with ⟨hc, h⟩ | ⟨hc, h⟩
  · refine ite_t hc ?_
    have h := sp_onk (i := .iload_n 1) (by decide +kernel) rfl h
    exact sp_iret (by decide +kernel) h
  · refine ite_f hc ?_
    have h := sp_iconst (n := 0) (v := 0) (by decide +kernel) (by decide +kernel) h
    have h := sp_istore (j := 4) (ls' := [.ref 68, .int i1, .int i2, .int i3, .int 0, u5]) (by decide +kernel) (Nat.le_of_ble_eq_true rfl) rfl h
    exact h
set_option maxRecDepth 20000 in
set_option maxHeartbeats 2000000 in
theorem U191_20 {X : pm_X} {k : Nat} {w w' : pm_W} {r : Option Value} {i1 : Int32} {i2 : Int32} {i3 : Int32} {i4 : Int32} {u5 : Value} (hS : SK w) (h : PS X (k + 1) 191 20 [.ref 68, .int i1, .int i2, .int i3, .int i4, u5] [] w r w') : if (gI w (gR w 68 0) 0) ≤ i4 then (PS X k 191 6 [.ref 68, .int i1, .int i2, .int (i3 + 1), .int i4, u5] [] w r w') else (if i3 = i4 then (if 0 ≤ i2 then (PS X k 191 20 [.ref 68, .int i1, .int i2, .int i3, .int (i4 + 1), .int 0] [] w r w') else (∃ (r7 : Option Value) (w8 : pm_W), PS X k 52 0 [.int i3, .int i4] [] w r7 w8 ∧ (∀ x9 : Int32, r7 = some (.int x9) → SK w8 → (PS X k 191 20 [.ref 68, .int x9, .int 0, .int i3, .int (i4 + 1), .int 0] [] w8 r w')))) else (∃ (r1 : Option Value) (w2 : pm_W), PS X k 189 0 [.ref 68, .int i3, .int i4, pm_dead, pm_dead] [] w r1 w2 ∧ (∀ x3 : Int32, r1 = some (.int x3) → SK w2 → (if x3 ≤ i2 then (PS X k 191 20 [.ref 68, .int i1, .int i2, .int i3, .int (i4 + 1), .int x3] [] w2 r w') else (∃ (r4 : Option Value) (w5 : pm_W), PS X k 52 0 [.int i3, .int i4] [] w2 r4 w5 ∧ (∀ x6 : Int32, r4 = some (.int x6) → SK w5 → (PS X k 191 20 [.ref 68, .int x6, .int x3, .int i3, .int (i4 + 1), .int x3] [] w5 r w'))))))) := by
  have h := sp_one (i := .iload 4) (by decide +kernel) rfl h
  have h := sp_onk (i := .aload_n 0) (by decide +kernel) rfl h
  have h := sp_getR (jj := 12) (ci := 10) (n := 0) (by decide +kernel) (by decide +kernel) (by decide +kernel) hS h
  have h := sp_getI (jj := 49) (ci := 9) (n := 0) (by decide +kernel) (by decide +kernel) (by decide +kernel) hS h
  rcases sp_icmp_ge (mi := 191) (pc := 29) (off := 44) (t := 73) (by decide +kernel) (by decide) rfl h with ⟨hc, h⟩ | ⟨hc, h⟩
  · refine ite_t hc ?_
    have h := sp_iinc (j := 3) (n := 1) (v := 1) (ls' := [.ref 68, .int i1, .int i2, .int (i3 + 1), .int i4, u5]) (by decide +kernel) rfl (by decide +kernel) rfl h
    have h := sp_goto (mi := 191) (pc := 76) (off := (-70)) (t := 6) (by decide +kernel) (by decide) rfl h
    exact h
  · refine ite_f hc ?_
    have h := sp_onk (i := .iload_n 3) (by decide +kernel) rfl h
    have h := sp_onk (i := .iload 4) (by decide +kernel) rfl h
    rcases sp_icmp_ne (mi := 191) (pc := 35) (off := 7) (t := 42) (by decide +kernel) (by decide) rfl h with ⟨hc, h⟩ | ⟨hc, h⟩
    · refine ite_f hc ?_
      have h := sp_onk (i := .aload_n 0) (by decide +kernel) rfl h
      have h := sp_onk (i := .iload_n 3) (by decide +kernel) rfl h
      have h := sp_onk (i := .iload 4) (by decide +kernel) rfl h
      obtain ⟨r1, w2, hc, h⟩ := sp_callV (jj := 124) (mj := 189) (n := 2) (v := .ref 68) (args := [.int i4, .int i3]) (ls' := [.ref 68, .int i3, .int i4, pm_dead, pm_dead]) (by decide +kernel) (by decide +kernel) rfl rfl rfl h
      refine ⟨r1, w2, hc, fun x3 er hSw2 => ?_⟩
      subst er
      have h : PS X k 191 49 [.ref 68, .int i1, .int i2, .int i3, .int i4, u5] [.int x3] w2 r w' := h
      have h := sp_istore (j := 5) (ls' := [.ref 68, .int i1, .int i2, .int i3, .int i4, .int x3]) (by decide +kernel) (Nat.le_of_ble_eq_true rfl) rfl h
      have h := sp_onk (i := .iload 5) (by decide +kernel) rfl h
      have h := sp_onk (i := .iload_n 2) (by decide +kernel) rfl h
      rcases sp_icmp_le (mi := 191) (pc := 54) (off := 13) (t := 67) (by decide +kernel) (by decide) rfl h with ⟨hc, h⟩ | ⟨hc, h⟩
      · refine ite_t hc ?_
        have h := sp_iinc (j := 4) (n := 1) (v := 1) (ls' := [.ref 68, .int i1, .int i2, .int i3, .int (i4 + 1), .int x3]) (by decide +kernel) rfl (by decide +kernel) rfl h
        have h := sp_goto (mi := 191) (pc := 70) (off := (-50)) (t := 20) (by decide +kernel) (by decide) rfl h
        exact h
      · refine ite_f hc ?_
        have h := sp_onk (i := .iload_n 3) (by decide +kernel) rfl h
        have h := sp_onk (i := .iload 4) (by decide +kernel) rfl h
        obtain ⟨r4, w5, hc, h⟩ := sp_callS (jj := 53) (mj := 52) (n := 2) (args := [.int i4, .int i3]) (ls' := [.int i3, .int i4]) (by decide +kernel) (by decide +kernel) (by decide +kernel) rfl rfl rfl h
        refine ⟨r4, w5, hc, fun x6 er hSw5 => ?_⟩
        subst er
        have h : PS X k 191 63 [.ref 68, .int i1, .int i2, .int i3, .int i4, .int x3] [.int x6] w5 r w' := h
        have h := sp_istore_n (j := 1) (ls' := [.ref 68, .int x6, .int i2, .int i3, .int i4, .int x3]) (by decide +kernel) (Nat.le_of_ble_eq_true rfl) rfl h
        have h := sp_onk (i := .iload 5) (by decide +kernel) rfl h
        have h := sp_istore_n (j := 2) (ls' := [.ref 68, .int x6, .int x3, .int i3, .int i4, .int x3]) (by decide +kernel) (Nat.le_of_ble_eq_true rfl) rfl h
        have h := sp_iinc (j := 4) (n := 1) (v := 1) (ls' := [.ref 68, .int x6, .int x3, .int i3, .int (i4 + 1), .int x3]) (by decide +kernel) rfl (by decide +kernel) rfl h
        have h := sp_goto (mi := 191) (pc := 70) (off := (-50)) (t := 20) (by decide +kernel) (by decide) rfl h
        exact h
    · refine ite_t (Classical.not_not.mp hc) ?_
      have h := sp_iconst (n := 0) (v := 0) (by decide +kernel) (by decide +kernel) h
      have h := sp_goto (mi := 191) (pc := 39) (off := 10) (t := 49) (by decide +kernel) (by decide) rfl h
      have h := sp_istore (j := 5) (ls' := [.ref 68, .int i1, .int i2, .int i3, .int i4, .int 0]) (by decide +kernel) (Nat.le_of_ble_eq_true rfl) rfl h
      have h := sp_onk (i := .iload 5) (by decide +kernel) rfl h
      have h := sp_onk (i := .iload_n 2) (by decide +kernel) rfl h
      rcases sp_icmp_le (mi := 191) (pc := 54) (off := 13) (t := 67) (by decide +kernel) (by decide) rfl h with ⟨hc, h⟩ | ⟨hc, h⟩
      · refine ite_t hc ?_
        have h := sp_iinc (j := 4) (n := 1) (v := 1) (ls' := [.ref 68, .int i1, .int i2, .int i3, .int (i4 + 1), .int 0]) (by decide +kernel) rfl (by decide +kernel) rfl h
        have h := sp_goto (mi := 191) (pc := 70) (off := (-50)) (t := 20) (by decide +kernel) (by decide) rfl h
        exact h
      · refine ite_f hc ?_
        have h := sp_onk (i := .iload_n 3) (by decide +kernel) rfl h
        have h := sp_onk (i := .iload 4) (by decide +kernel) rfl h
        obtain ⟨r7, w8, hc, h⟩ := sp_callS (jj := 53) (mj := 52) (n := 2) (args := [.int i4, .int i3]) (ls' := [.int i3, .int i4]) (by decide +kernel) (by decide +kernel) (by decide +kernel) rfl rfl rfl h
        refine ⟨r7, w8, hc, fun x9 er hSw8 => ?_⟩
        subst er
        have h : PS X k 191 63 [.ref 68, .int i1, .int i2, .int i3, .int i4, .int 0] [.int x9] w8 r w' := h
        have h := sp_istore_n (j := 1) (ls' := [.ref 68, .int x9, .int i2, .int i3, .int i4, .int 0]) (by decide +kernel) (Nat.le_of_ble_eq_true rfl) rfl h
        have h := sp_onk (i := .iload 5) (by decide +kernel) rfl h
        have h := sp_istore_n (j := 2) (ls' := [.ref 68, .int x9, .int 0, .int i3, .int i4, .int 0]) (by decide +kernel) (Nat.le_of_ble_eq_true rfl) rfl h
        have h := sp_iinc (j := 4) (n := 1) (v := 1) (ls' := [.ref 68, .int x9, .int 0, .int i3, .int (i4 + 1), .int 0]) (by decide +kernel) rfl (by decide +kernel) rfl h
        have h := sp_goto (mi := 191) (pc := 70) (off := (-50)) (t := 20) (by decide +kernel) (by decide) rfl h
        exact h
set_option maxRecDepth 20000 in
set_option maxHeartbeats 2000000 in
theorem U307_0 {X : pm_X} {k : Nat} {w w' : pm_W} {r : Option Value} {p1 : Int32} {p2 : Int32} {p3 : Int32} {p4 : Int32} {p5 : Int32} (hS : SK w) (h : PS X (k + 1) 307 0 [.ref 147, .int p1, .int p2, .int p3, .int p4, .int p5, pm_dead] [] w r w') : if p4 = p5 then (r = some (.int (-1)) ∧ w' = w) else (∃ (r1 : Option Value) (w2 : pm_W), PS X k 245 0 [.ref 147, .int p1, .int p2, .int p3, .int p4, .int p5] [] w r1 w2 ∧ (∀ x3 : Int32, r1 = some (.int x3) → SK w2 → (if x3 = 0 then (r = some (.int (-1)) ∧ w' = w2) else (∃ (r4 : Option Value) (w5 : pm_W), PS X k 217 0 [.int 0, .int p1] [] w2 r4 w5 ∧ (∀ x6 : Int32, r4 = some (.int x6) → SK w5 → (∃ (r7 : Option Value) (w8 : pm_W), PS X k 308 0 [.ref 147, .int x6, .int p4, .int p5, pm_dead] [] w5 r7 w8 ∧ (∀ x9 : Int32, r7 = some (.int x9) → SK w8 → (∃ (r10 : Option Value) (w11 : pm_W), PS X k 287 0 [.ref 147, .int x6, .int 0, .int (-1), pm_dead, pm_dead, pm_dead] [] w8 r10 w11 ∧ (∀ x12 : Int32, r10 = some (.int x12) → SK w11 → (∃ (r13 : Option Value) (w14 : pm_W), PS X k 288 0 [.ref 147, .int x6, .int x12, pm_dead, pm_dead] [] w11 r13 w14 ∧ (∀ x15 : Int32, r13 = some (.int x15) → SK w14 → (r = some (.int (x9 - x15)) ∧ w' = w14)))))))))))) := by
  have h := sp_one (i := .iload 4) (by decide +kernel) rfl h
  have h := sp_onk (i := .iload 5) (by decide +kernel) rfl h
  rcases sp_icmp_eq (mi := 307) (pc := 4) (off := 17) (t := 21) (by decide +kernel) (by decide) rfl h with ⟨hc, h⟩ | ⟨hc, h⟩
  · refine ite_t hc ?_
    have h := sp_iconst (n := (-1)) (v := (-1)) (by decide +kernel) (by decide +kernel) h
    exact sp_iret (by decide +kernel) h
  · refine ite_f hc ?_
    have h := sp_onk (i := .aload_n 0) (by decide +kernel) rfl h
    have h := sp_onk (i := .iload_n 1) (by decide +kernel) rfl h
    have h := sp_onk (i := .iload_n 2) (by decide +kernel) rfl h
    have h := sp_onk (i := .iload_n 3) (by decide +kernel) rfl h
    have h := sp_onk (i := .iload 4) (by decide +kernel) rfl h
    have h := sp_onk (i := .iload 5) (by decide +kernel) rfl h
    obtain ⟨r1, w2, hc, h⟩ := sp_callV (jj := 235) (mj := 245) (n := 5) (v := .ref 147) (args := [.int p5, .int p4, .int p3, .int p2, .int p1]) (ls' := [.ref 147, .int p1, .int p2, .int p3, .int p4, .int p5]) (by decide +kernel) (by decide +kernel) rfl rfl rfl h
    refine ⟨r1, w2, hc, fun x3 er hSw2 => ?_⟩
    subst er
    have h : PS X k 307 18 [.ref 147, .int p1, .int p2, .int p3, .int p4, .int p5, pm_dead] [.int x3] w2 r w' := h
    rcases sp_if_ne (mi := 307) (pc := 18) (off := 5) (t := 23) (by decide +kernel) (by decide) rfl h with ⟨hc, h⟩ | ⟨hc, h⟩
    · refine ite_f hc ?_
      have h := sp_iconst (n := 0) (v := 0) (by decide +kernel) (by decide +kernel) h
      have h := sp_onk (i := .iload_n 1) (by decide +kernel) rfl h
      obtain ⟨r4, w5, hc, h⟩ := sp_callS (jj := 163) (mj := 217) (n := 2) (args := [.int p1, .int 0]) (ls' := [.int 0, .int p1]) (by decide +kernel) (by decide +kernel) (by decide +kernel) rfl rfl rfl h
      refine ⟨r4, w5, hc, fun x6 er hSw5 => ?_⟩
      subst er
      have h : PS X k 307 28 [.ref 147, .int p1, .int p2, .int p3, .int p4, .int p5, pm_dead] [.int x6] w5 r w' := h
      have h := sp_istore (j := 6) (ls' := [.ref 147, .int p1, .int p2, .int p3, .int p4, .int p5, .int x6]) (by decide +kernel) (Nat.le_of_ble_eq_true rfl) rfl h
      have h := sp_onk (i := .aload_n 0) (by decide +kernel) rfl h
      have h := sp_onk (i := .iload 6) (by decide +kernel) rfl h
      have h := sp_onk (i := .iload 4) (by decide +kernel) rfl h
      have h := sp_onk (i := .iload 5) (by decide +kernel) rfl h
      obtain ⟨r7, w8, hc, h⟩ := sp_callV (jj := 377) (mj := 308) (n := 3) (v := .ref 147) (args := [.int p5, .int p4, .int x6]) (ls' := [.ref 147, .int x6, .int p4, .int p5, pm_dead]) (by decide +kernel) (by decide +kernel) rfl rfl rfl h
      refine ⟨r7, w8, hc, fun x9 er hSw8 => ?_⟩
      subst er
      have h : PS X k 307 40 [.ref 147, .int p1, .int p2, .int p3, .int p4, .int p5, .int x6] [.int x9] w8 r w' := h
      have h := sp_onk (i := .aload_n 0) (by decide +kernel) rfl h
      have h := sp_onk (i := .iload 6) (by decide +kernel) rfl h
      have h := sp_onk (i := .aload_n 0) (by decide +kernel) rfl h
      have h := sp_onk (i := .iload 6) (by decide +kernel) rfl h
      have h := sp_iconst (n := 0) (v := 0) (by decide +kernel) (by decide +kernel) h
      have h := sp_iconst (n := (-1)) (v := (-1)) (by decide +kernel) (by decide +kernel) h
      obtain ⟨r10, w11, hc, h⟩ := sp_callV (jj := 346) (mj := 287) (n := 3) (v := .ref 147) (args := [.int (-1), .int 0, .int x6]) (ls' := [.ref 147, .int x6, .int 0, .int (-1), pm_dead, pm_dead, pm_dead]) (by decide +kernel) (by decide +kernel) rfl rfl rfl h
      refine ⟨r10, w11, hc, fun x12 er hSw11 => ?_⟩
      subst er
      have h : PS X k 307 51 [.ref 147, .int p1, .int p2, .int p3, .int p4, .int p5, .int x6] [.int x12, .int x6, .ref 147, .int x9] w11 r w' := h
      obtain ⟨r13, w14, hc, h⟩ := sp_callV (jj := 340) (mj := 288) (n := 2) (v := .ref 147) (args := [.int x12, .int x6]) (ls' := [.ref 147, .int x6, .int x12, pm_dead, pm_dead]) (by decide +kernel) (by decide +kernel) rfl rfl rfl h
      refine ⟨r13, w14, hc, fun x15 er hSw14 => ?_⟩
      subst er
      have h : PS X k 307 54 [.ref 147, .int p1, .int p2, .int p3, .int p4, .int p5, .int x6] [.int x15, .int x9] w14 r w' := h
      have h := sp_onk (i := .isub) (by decide +kernel) rfl h
      exact sp_iret (by decide +kernel) h
    · refine ite_t (Classical.not_not.mp hc) ?_
      have h := sp_iconst (n := (-1)) (v := (-1)) (by decide +kernel) (by decide +kernel) h
      exact sp_iret (by decide +kernel) h
set_option maxRecDepth 20000 in
set_option maxHeartbeats 2000000 in
theorem U308_0 {X : pm_X} {k : Nat} {w w' : pm_W} {r : Option Value} {p1 : Int32} {p2 : Int32} {p3 : Int32} (hS : SK w) (h : PS X (k + 1) 308 0 [.ref 147, .int p1, .int p2, .int p3, pm_dead] [] w r w') : ∀ w1 : pm_W, w1 = sI w 147 31 p2 → (∀ w2 : pm_W, w2 = sI w1 147 32 p3 → (∃ (r3 : Option Value) (w4 : pm_W), PS X k 287 0 [.ref 147, .int p1, .int 0, .int (-1), pm_dead, pm_dead, pm_dead] [] w2 r3 w4 ∧ (∀ x5 : Int32, r3 = some (.int x5) → SK w4 → (∃ (r6 : Option Value) (w7 : pm_W), PS X k 288 0 [.ref 147, .int p1, .int x5, pm_dead, pm_dead] [] w4 r6 w7 ∧ (∀ x8 : Int32, r6 = some (.int x8) → SK w7 → (∀ w9 : pm_W, w9 = sI w7 147 31 (-1) → (∀ w10 : pm_W, w10 = sI w9 147 32 (-1) → (r = some (.int x8) ∧ w' = w10)))))))) := by
  have h := sp_one (i := .aload_n 0) (by decide +kernel) rfl h
  have h := sp_onk (i := .iload_n 2) (by decide +kernel) rfl h
  have h := sp_putI (jj := 65) (ci := 12) (n := 31) (ty := .int) (by decide +kernel) (by decide +kernel) (by decide +kernel) hS h
  intro w1 ew1
  rw [← ew1] at h
  have hSw1 : SK w1 := by rw [ew1]; exact SK_sI hS
  have h := sp_onk (i := .aload_n 0) (by decide +kernel) rfl h
  have h := sp_onk (i := .iload_n 3) (by decide +kernel) rfl h
  have h := sp_putI (jj := 69) (ci := 12) (n := 32) (ty := .int) (by decide +kernel) (by decide +kernel) (by decide +kernel) hSw1 h
  intro w2 ew2
  rw [← ew2] at h
  have hSw2 : SK w2 := by rw [ew2]; exact SK_sI hSw1
  have h := sp_onk (i := .aload_n 0) (by decide +kernel) rfl h
  have h := sp_onk (i := .iload_n 1) (by decide +kernel) rfl h
  have h := sp_onk (i := .aload_n 0) (by decide +kernel) rfl h
  have h := sp_onk (i := .iload_n 1) (by decide +kernel) rfl h
  have h := sp_iconst (n := 0) (v := 0) (by decide +kernel) (by decide +kernel) h
  have h := sp_iconst (n := (-1)) (v := (-1)) (by decide +kernel) (by decide +kernel) h
  obtain ⟨r3, w4, hc, h⟩ := sp_callV (jj := 346) (mj := 287) (n := 3) (v := .ref 147) (args := [.int (-1), .int 0, .int p1]) (ls' := [.ref 147, .int p1, .int 0, .int (-1), pm_dead, pm_dead, pm_dead]) (by decide +kernel) (by decide +kernel) rfl rfl rfl h
  refine ⟨r3, w4, hc, fun x5 er hSw4 => ?_⟩
  subst er
  have h : PS X k 308 19 [.ref 147, .int p1, .int p2, .int p3, pm_dead] [.int x5, .int p1, .ref 147] w4 r w' := h
  obtain ⟨r6, w7, hc, h⟩ := sp_callV (jj := 340) (mj := 288) (n := 2) (v := .ref 147) (args := [.int x5, .int p1]) (ls' := [.ref 147, .int p1, .int x5, pm_dead, pm_dead]) (by decide +kernel) (by decide +kernel) rfl rfl rfl h
  refine ⟨r6, w7, hc, fun x8 er hSw7 => ?_⟩
  subst er
  have h : PS X k 308 22 [.ref 147, .int p1, .int p2, .int p3, pm_dead] [.int x8] w7 r w' := h
  have h := sp_istore (j := 4) (ls' := [.ref 147, .int p1, .int p2, .int p3, .int x8]) (by decide +kernel) (Nat.le_of_ble_eq_true rfl) rfl h
  have h := sp_onk (i := .aload_n 0) (by decide +kernel) rfl h
  have h := sp_iconst (n := (-1)) (v := (-1)) (by decide +kernel) (by decide +kernel) h
  have h := sp_putI (jj := 65) (ci := 12) (n := 31) (ty := .int) (by decide +kernel) (by decide +kernel) (by decide +kernel) hSw7 h
  intro w9 ew9
  rw [← ew9] at h
  have hSw9 : SK w9 := by rw [ew9]; exact SK_sI hSw7
  have h := sp_onk (i := .aload_n 0) (by decide +kernel) rfl h
  have h := sp_iconst (n := (-1)) (v := (-1)) (by decide +kernel) (by decide +kernel) h
  have h := sp_putI (jj := 69) (ci := 12) (n := 32) (ty := .int) (by decide +kernel) (by decide +kernel) (by decide +kernel) hSw9 h
  intro w10 ew10
  rw [← ew10] at h
  have hSw10 : SK w10 := by rw [ew10]; exact SK_sI hSw9
  have h := sp_onk (i := .iload 4) (by decide +kernel) rfl h
  exact sp_iret (by decide +kernel) h
set_option maxRecDepth 20000 in
set_option maxHeartbeats 2000000 in
theorem U309_0 {X : pm_X} {k : Nat} {w w' : pm_W} {r : Option Value} {p1 : Int32} {p2 : Int32} {p3 : Int32} {p4 : Int32} (hS : SK w) (h : PS X (k + 1) 309 0 [.ref 147, .int p1, .int p2, .int p3, .int p4, pm_dead, pm_dead, pm_dead, pm_dead, pm_dead] [] w r w') : ∃ (r1 : Option Value) (w2 : pm_W), PS X k 246 0 [.ref 147, .int p1, .int p2, .int p3] [] w r1 w2 ∧ (∀ x3 : Int32, r1 = some (.int x3) → SK w2 → (if x3 = 0 then (r = some (.int (-1)) ∧ w' = w2) else (∃ (r4 : Option Value) (w5 : pm_W), PS X k 217 0 [.int 0, .int p1] [] w2 r4 w5 ∧ (∀ x6 : Int32, r4 = some (.int x6) → SK w5 → (∃ (r7 : Option Value) (w8 : pm_W), PS X k 287 0 [.ref 147, .int x6, .int 0, .int (-1), pm_dead, pm_dead, pm_dead] [] w5 r7 w8 ∧ (∀ x9 : Int32, r7 = some (.int x9) → SK w8 → (∃ (r10 : Option Value) (w11 : pm_W), PS X k 288 0 [.ref 147, .int x6, .int x9, pm_dead, pm_dead] [] w8 r10 w11 ∧ (∀ x12 : Int32, r10 = some (.int x12) → SK w11 → (PS X k 309 41 [.ref 147, .int p1, .int p2, .int p3, .int p4, .int x6, .int x12, .int (-1), .int 0, pm_dead] [] w11 r w'))))))))) := by
  have h := sp_one (i := .aload_n 0) (by decide +kernel) rfl h
  have h := sp_onk (i := .iload_n 1) (by decide +kernel) rfl h
  have h := sp_onk (i := .iload_n 2) (by decide +kernel) rfl h
  have h := sp_onk (i := .iload_n 3) (by decide +kernel) rfl h
  obtain ⟨r1, w2, hc, h⟩ := sp_callV (jj := 232) (mj := 246) (n := 3) (v := .ref 147) (args := [.int p3, .int p2, .int p1]) (ls' := [.ref 147, .int p1, .int p2, .int p3]) (by decide +kernel) (by decide +kernel) rfl rfl rfl h
  refine ⟨r1, w2, hc, fun x3 er hSw2 => ?_⟩
  subst er
  have h : PS X k 309 7 [.ref 147, .int p1, .int p2, .int p3, .int p4, pm_dead, pm_dead, pm_dead, pm_dead, pm_dead] [.int x3] w2 r w' := h
  rcases sp_if_ne (mi := 309) (pc := 7) (off := 5) (t := 12) (by decide +kernel) (by decide) rfl h with ⟨hc, h⟩ | ⟨hc, h⟩
  · refine ite_f hc ?_
    have h := sp_iconst (n := 0) (v := 0) (by decide +kernel) (by decide +kernel) h
    have h := sp_onk (i := .iload_n 1) (by decide +kernel) rfl h
    obtain ⟨r4, w5, hc, h⟩ := sp_callS (jj := 163) (mj := 217) (n := 2) (args := [.int p1, .int 0]) (ls' := [.int 0, .int p1]) (by decide +kernel) (by decide +kernel) (by decide +kernel) rfl rfl rfl h
    refine ⟨r4, w5, hc, fun x6 er hSw5 => ?_⟩
    subst er
    have h : PS X k 309 17 [.ref 147, .int p1, .int p2, .int p3, .int p4, pm_dead, pm_dead, pm_dead, pm_dead, pm_dead] [.int x6] w5 r w' := h
    have h := sp_istore (j := 5) (ls' := [.ref 147, .int p1, .int p2, .int p3, .int p4, .int x6, pm_dead, pm_dead, pm_dead, pm_dead]) (by decide +kernel) (Nat.le_of_ble_eq_true rfl) rfl h
    have h := sp_onk (i := .aload_n 0) (by decide +kernel) rfl h
    have h := sp_onk (i := .iload 5) (by decide +kernel) rfl h
    have h := sp_onk (i := .aload_n 0) (by decide +kernel) rfl h
    have h := sp_onk (i := .iload 5) (by decide +kernel) rfl h
    have h := sp_iconst (n := 0) (v := 0) (by decide +kernel) (by decide +kernel) h
    have h := sp_iconst (n := (-1)) (v := (-1)) (by decide +kernel) (by decide +kernel) h
    obtain ⟨r7, w8, hc, h⟩ := sp_callV (jj := 346) (mj := 287) (n := 3) (v := .ref 147) (args := [.int (-1), .int 0, .int x6]) (ls' := [.ref 147, .int x6, .int 0, .int (-1), pm_dead, pm_dead, pm_dead]) (by decide +kernel) (by decide +kernel) rfl rfl rfl h
    refine ⟨r7, w8, hc, fun x9 er hSw8 => ?_⟩
    subst er
    have h : PS X k 309 30 [.ref 147, .int p1, .int p2, .int p3, .int p4, .int x6, pm_dead, pm_dead, pm_dead, pm_dead] [.int x9, .int x6, .ref 147] w8 r w' := h
    obtain ⟨r10, w11, hc, h⟩ := sp_callV (jj := 340) (mj := 288) (n := 2) (v := .ref 147) (args := [.int x9, .int x6]) (ls' := [.ref 147, .int x6, .int x9, pm_dead, pm_dead]) (by decide +kernel) (by decide +kernel) rfl rfl rfl h
    refine ⟨r10, w11, hc, fun x12 er hSw11 => ?_⟩
    subst er
    have h : PS X k 309 33 [.ref 147, .int p1, .int p2, .int p3, .int p4, .int x6, pm_dead, pm_dead, pm_dead, pm_dead] [.int x12] w11 r w' := h
    have h := sp_istore (j := 6) (ls' := [.ref 147, .int p1, .int p2, .int p3, .int p4, .int x6, .int x12, pm_dead, pm_dead, pm_dead]) (by decide +kernel) (Nat.le_of_ble_eq_true rfl) rfl h
    have h := sp_iconst (n := (-1)) (v := (-1)) (by decide +kernel) (by decide +kernel) h
    have h := sp_istore (j := 7) (ls' := [.ref 147, .int p1, .int p2, .int p3, .int p4, .int x6, .int x12, .int (-1), pm_dead, pm_dead]) (by decide +kernel) (Nat.le_of_ble_eq_true rfl) rfl h
    have h := sp_iconst (n := 0) (v := 0) (by decide +kernel) (by decide +kernel) h
    have h := sp_istore (j := 8) (ls' := [.ref 147, .int p1, .int p2, .int p3, .int p4, .int x6, .int x12, .int (-1), .int 0, pm_dead]) (by decide +kernel) (Nat.le_of_ble_eq_true rfl) rfl h
    exact h
  · refine ite_t (Classical.not_not.mp hc) ?_
    have h := sp_iconst (n := (-1)) (v := (-1)) (by decide +kernel) (by decide +kernel) h
    exact sp_iret (by decide +kernel) h
set_option maxRecDepth 20000 in
set_option maxHeartbeats 2000000 in
theorem U309_41 {X : pm_X} {k : Nat} {w w' : pm_W} {r : Option Value} {i1 : Int32} {i2 : Int32} {i3 : Int32} {i4 : Int32} {i5 : Int32} {i6 : Int32} {i7 : Int32} {i8 : Int32} {u9 : Value} (hS : SK w) (h : PS X (k + 1) 309 41 [.ref 147, .int i1, .int i2, .int i3, .int i4, .int i5, .int i6, .int i7, .int i8, u9] [] w r w') : aI w 148 i5 ∧ (if (9 * (aG w 148 i5)) ≤ i8 then (if 0 ≤ i7 then (if i4 = 0 then (r = some (.int (i7 / 9)) ∧ w' = w) else (r = some (.int (i7 - i7 / 9 * 9)) ∧ w' = w)) else (r = some (.int (-1)) ∧ w' = w)) else (if (i8 - i8 / 10 * 10) = 0 then (PS X k 309 41 [.ref 147, .int i1, .int i2, .int i3, .int i4, .int i5, .int i6, .int i7, .int (i8 + 1), u9] [] w r w') else (aI w 148 i5 ∧ (if (i8 - i8 / 9 * 9) < (aG w 148 i5) then (∃ (r1 : Option Value) (w2 : pm_W), PS X k 308 0 [.ref 147, .int i5, .int (i8 / 9), .int (i8 - i8 / 9 * 9), pm_dead] [] w r1 w2 ∧ (∀ x3 : Int32, r1 = some (.int x3) → SK w2 → (if i6 < x3 then (PS X k 309 41 [.ref 147, .int i1, .int i2, .int i3, .int i4, .int i5, .int x3, .int i8, .int (i8 + 1), .int x3] [] w2 r w') else (PS X k 309 41 [.ref 147, .int i1, .int i2, .int i3, .int i4, .int i5, .int i6, .int i7, .int (i8 + 1), .int x3] [] w2 r w')))) else (PS X k 309 41 [.ref 147, .int i1, .int i2, .int i3, .int i4, .int i5, .int i6, .int i7, .int (i8 + 1), u9] [] w r w'))))) := by
  have h := sp_one (i := .iload 8) (by decide +kernel) rfl h
  have h := sp_bipush (n := 9) (v := 9) (by decide +kernel) (by decide +kernel) h
  have h := sp_onk (i := .aload_n 0) (by decide +kernel) rfl h
  have h := sp_getK (jj := 7) (ci := 12) (n := 0) (b := 148) (by decide +kernel) (by decide +kernel) (by decide +kernel) (by decide +kernel) (by decide) hS h
  have h := sp_onk (i := .iload 5) (by decide +kernel) rfl h
  obtain ⟨hi, h⟩ := sp_iald (by decide +kernel) h
  refine ⟨hi, ?_⟩
  have h := sp_onk (i := .imul) (by decide +kernel) rfl h
  rcases sp_icmp_ge (mi := 309) (pc := 53) (off := 71) (t := 124) (by decide +kernel) (by decide) rfl h with ⟨hc, h⟩ | ⟨hc, h⟩
  · refine ite_t hc ?_
    have h := sp_onk (i := .iload 7) (by decide +kernel) rfl h
    rcases sp_if_ge (mi := 309) (pc := 126) (off := 7) (t := 133) (by decide +kernel) (by decide) rfl h with ⟨hc, h⟩ | ⟨hc, h⟩
    · refine ite_t hc ?_
      have h := sp_onk (i := .iload 4) (by decide +kernel) rfl h
      rcases sp_if_eq (mi := 309) (pc := 135) (off := 11) (t := 146) (by decide +kernel) (by decide) rfl h with ⟨hc, h⟩ | ⟨hc, h⟩
      · refine ite_t hc ?_
        have h := sp_onk (i := .iload 7) (by decide +kernel) rfl h
        have h := sp_bipush (n := 9) (v := 9) (by decide +kernel) (by decide +kernel) h
        have h := sp_idiv (by decide +kernel) h
        exact sp_iret (by decide +kernel) h
      · refine ite_f hc ?_
        have h := sp_onk (i := .iload 7) (by decide +kernel) rfl h
        have h := sp_bipush (n := 9) (v := 9) (by decide +kernel) (by decide +kernel) h
        have h := sp_irem (by decide +kernel) h
        have h := sp_goto (mi := 309) (pc := 143) (off := 8) (t := 151) (by decide +kernel) (by decide) rfl h
        exact sp_iret (by decide +kernel) h
    · refine ite_f hc ?_
      have h := sp_iconst (n := (-1)) (v := (-1)) (by decide +kernel) (by decide +kernel) h
      have h := sp_goto (mi := 309) (pc := 130) (off := 21) (t := 151) (by decide +kernel) (by decide) rfl h
      exact sp_iret (by decide +kernel) h
  · refine ite_f hc ?_
    have h := sp_onk (i := .iload 8) (by decide +kernel) rfl h
    have h := sp_bipush (n := 10) (v := 10) (by decide +kernel) (by decide +kernel) h
    have h := sp_irem (by decide +kernel) h
    rcases sp_if_eq (mi := 309) (pc := 61) (off := 57) (t := 118) (by decide +kernel) (by decide) rfl h with ⟨hc, h⟩ | ⟨hc, h⟩
    · refine ite_t hc ?_
      have h := sp_iinc (j := 8) (n := 1) (v := 1) (ls' := [.ref 147, .int i1, .int i2, .int i3, .int i4, .int i5, .int i6, .int i7, .int (i8 + 1), u9]) (by decide +kernel) rfl (by decide +kernel) rfl h
      have h := sp_goto (mi := 309) (pc := 121) (off := (-80)) (t := 41) (by decide +kernel) (by decide) rfl h
      exact h
    · refine ite_f hc ?_
      have h := sp_onk (i := .iload 8) (by decide +kernel) rfl h
      have h := sp_bipush (n := 9) (v := 9) (by decide +kernel) (by decide +kernel) h
      have h := sp_irem (by decide +kernel) h
      have h := sp_onk (i := .aload_n 0) (by decide +kernel) rfl h
      have h := sp_getK (jj := 7) (ci := 12) (n := 0) (b := 148) (by decide +kernel) (by decide +kernel) (by decide +kernel) (by decide +kernel) (by decide) hS h
      have h := sp_onk (i := .iload 5) (by decide +kernel) rfl h
      obtain ⟨hi, h⟩ := sp_iald (by decide +kernel) h
      refine ⟨hi, ?_⟩
      rcases sp_icmp_lt (mi := 309) (pc := 76) (off := 6) (t := 82) (by decide +kernel) (by decide) rfl h with ⟨hc, h⟩ | ⟨hc, h⟩
      · refine ite_t hc ?_
        have h := sp_onk (i := .aload_n 0) (by decide +kernel) rfl h
        have h := sp_onk (i := .iload 5) (by decide +kernel) rfl h
        have h := sp_onk (i := .iload 8) (by decide +kernel) rfl h
        have h := sp_bipush (n := 9) (v := 9) (by decide +kernel) (by decide +kernel) h
        have h := sp_idiv (by decide +kernel) h
        have h := sp_onk (i := .iload 8) (by decide +kernel) rfl h
        have h := sp_bipush (n := 9) (v := 9) (by decide +kernel) (by decide +kernel) h
        have h := sp_irem (by decide +kernel) h
        obtain ⟨r1, w2, hc, h⟩ := sp_callV (jj := 377) (mj := 308) (n := 3) (v := .ref 147) (args := [.int (i8 - i8 / 9 * 9), .int (i8 / 9), .int i5]) (ls' := [.ref 147, .int i5, .int (i8 / 9), .int (i8 - i8 / 9 * 9), pm_dead]) (by decide +kernel) (by decide +kernel) rfl rfl rfl h
        refine ⟨r1, w2, hc, fun x3 er hSw2 => ?_⟩
        subst er
        have h : PS X k 309 98 [.ref 147, .int i1, .int i2, .int i3, .int i4, .int i5, .int i6, .int i7, .int i8, u9] [.int x3] w2 r w' := h
        have h := sp_istore (j := 9) (ls' := [.ref 147, .int i1, .int i2, .int i3, .int i4, .int i5, .int i6, .int i7, .int i8, .int x3]) (by decide +kernel) (Nat.le_of_ble_eq_true rfl) rfl h
        have h := sp_onk (i := .iload 9) (by decide +kernel) rfl h
        have h := sp_onk (i := .iload 6) (by decide +kernel) rfl h
        rcases sp_icmp_gt (mi := 309) (pc := 104) (off := 6) (t := 110) (by decide +kernel) (by decide) rfl h with ⟨hc, h⟩ | ⟨hc, h⟩
        · refine ite_t hc ?_
          have h := sp_onk (i := .iload 9) (by decide +kernel) rfl h
          have h := sp_istore (j := 6) (ls' := [.ref 147, .int i1, .int i2, .int i3, .int i4, .int i5, .int x3, .int i7, .int i8, .int x3]) (by decide +kernel) (Nat.le_of_ble_eq_true rfl) rfl h
          have h := sp_onk (i := .iload 8) (by decide +kernel) rfl h
          have h := sp_istore (j := 7) (ls' := [.ref 147, .int i1, .int i2, .int i3, .int i4, .int i5, .int x3, .int i8, .int i8, .int x3]) (by decide +kernel) (Nat.le_of_ble_eq_true rfl) rfl h
          have h := sp_iinc (j := 8) (n := 1) (v := 1) (ls' := [.ref 147, .int i1, .int i2, .int i3, .int i4, .int i5, .int x3, .int i8, .int (i8 + 1), .int x3]) (by decide +kernel) rfl (by decide +kernel) rfl h
          have h := sp_goto (mi := 309) (pc := 121) (off := (-80)) (t := 41) (by decide +kernel) (by decide) rfl h
          exact h
        · refine ite_f hc ?_
          have h := sp_goto (mi := 309) (pc := 107) (off := 11) (t := 118) (by decide +kernel) (by decide) rfl h
          have h := sp_iinc (j := 8) (n := 1) (v := 1) (ls' := [.ref 147, .int i1, .int i2, .int i3, .int i4, .int i5, .int i6, .int i7, .int (i8 + 1), .int x3]) (by decide +kernel) rfl (by decide +kernel) rfl h
          have h := sp_goto (mi := 309) (pc := 121) (off := (-80)) (t := 41) (by decide +kernel) (by decide) rfl h
          exact h
      · refine ite_f hc ?_
        have h := sp_goto (mi := 309) (pc := 79) (off := 39) (t := 118) (by decide +kernel) (by decide) rfl h
        have h := sp_iinc (j := 8) (n := 1) (v := 1) (ls' := [.ref 147, .int i1, .int i2, .int i3, .int i4, .int i5, .int i6, .int i7, .int (i8 + 1), u9]) (by decide +kernel) rfl (by decide +kernel) rfl h
        have h := sp_goto (mi := 309) (pc := 121) (off := (-80)) (t := 41) (by decide +kernel) (by decide) rfl h
        exact h
