set_option maxRecDepth 100000 in
set_option maxHeartbeats 8000000 in
theorem NL_293_159 {X : pm_X} {d : Nat} {wc : pm_W} {Q : pm_R → Prop} {f : Nat → Int32} {A0 : Nat → List Int32} {x1 x2 x3 x4 x5 x6 : Int32} (hc : wc.length = 147) (gx1 : (0 ≤ x1.toInt ∧ x1.toInt ≤ 1)) (gx2 : ((-1) ≤ x2.toInt ∧ x2.toInt ≤ 2)) (gx3 : (0 ≤ x3.toInt ∧ x3.toInt ≤ 30)) (gx4 : (0 ≤ x4.toInt)) (gx5 : (610 ≤ x5.toInt ∧ x5.toInt ≤ 742 ∧ (x5.toInt - 610) % 132 = 0)) (gx6 : (0 ≤ x6.toInt ∧ x6.toInt ≤ 12474)) (k_178_0 : ∀ (A' : Nat → List Int32) (y7 : Int32), MI f A' → (∀ k : Nat, k ≠ 162 → k ≠ 163 → k ≠ 164 → k ≠ 165 → A' k = A0 k) → (0 ≤ y7.toInt ∧ y7.toInt ≤ 12474) → GJ A' (fr (A0 148) x5.toInt) → (ps (A' 163) : Int) + y7.toInt = x6.toInt → pmE pg X pg_tyl pg_cl (d + 7) 293 178 [.ref 147, .int x1, .int x2, .int x3, .int x4, .int x5, .int x6, .int y7] [] (md wc f A') Q) : ∀ (m : Nat) (A : Nat → List Int32) (x7 : Int32), MI f A → (∀ k : Nat, k ≠ 162 → k ≠ 163 → k ≠ 164 → k ≠ 165 → A k = A0 k) → (0 ≤ x7.toInt ∧ x7.toInt ≤ 12474) → GJ A (fr (A0 148) x5.toInt) → (ps (A 163) : Int) + x7.toInt = x6.toInt → 12474 - x7.toInt < (m : Int) → pmE pg X pg_tyl pg_cl (d + 7) 293 159 [.ref 147, .int x1, .int x2, .int x3, .int x4, .int x5, .int x6, .int x7] [] (md wc f A) Q := by
  intro m
  induction m with
  | zero =>
    intro A x7 hI hF gx7 hpi0 hpi1 hm
    exfalso
    have l0 := zi_lo x7
    have u0 := zi_hi x7
    omega
  | succ m ih =>
    intro A x7 hI hF gx7 hpi0 hpi1 hm
    refine pe_iload (j := 7) (by decide +kernel) rfl ?_
    refine pe_iload (j := 6) (by decide +kernel) rfl ?_
    refine pz_icmp_ge (off := 15) (t := 178) (by decide +kernel) (by decide) rfl rfl rfl (fun h1 => ?_) (fun h1 => ?_)
    · skip
      exact k_178_0 A x7 hI (fun k n162 n163 n164 n165 => (hF k n162 n163 n164 n165)) (by omega) hpi0 hpi1
    · skip
      refine pe_aload_n (j := 0) (by decide +kernel) rfl ?_
      refine pe_iload (j := 5) (by decide +kernel) rfl ?_
      refine pz_callV (j := 355) (mj := 294) (by decide +kernel) (cll_V (args := [.int x5]) (n := 1) (by decide +kernel) rfl rfl (md_o hc) (by decide +kernel) (Nat.le_of_ble_eq_true rfl) (Nat.le_of_ble_eq_true rfl)) (NM_294 hc hI (by omega) (by rw [show A 148 = A0 148 from (hF 148 (by decide) (by decide) (by decide) (by decide))]; exact hpi0) (by omega)) (fun q2a q2b q2c q2d hqq2 => ?_)
      obtain ⟨A3, eq2, hIq2, hFq2, kq2⟩ := hqq2
      cases eq2
      refine ⟨rfl, rfl, ?_⟩
      obtain ⟨hp4, hp5, kq2⟩ := kq2
      show pmE pg X pg_tyl pg_cl (d + 7) 293 172 [.ref 147, .int x1, .int x2, .int x3, .int x4, .int x5, .int x6, .int x7] [] (md wc f A3) _
      refine pz_iinc (j := 7) (n := 1) (by decide +kernel) rfl rfl (by decide +kernel) (by omega) (by omega) (fun z6 hz6 => ?_)
      show pmE pg X pg_tyl pg_cl (d + 7) 293 175 [.ref 147, .int x1, .int x2, .int x3, .int x4, .int x5, .int x6, .int z6] [] (md wc f A3) _
      refine pe_goto (off := (-16)) (t := 159) (by decide +kernel) (by decide) rfl ?_
      exact ih A3 z6 hIq2 (fun k n162 n163 n164 n165 => ((hFq2 k n162 n163 n164 n165)).trans ((hF k n162 n163 n164 n165))) (by omega) (by have h := hp4; rw [show A 148 = A0 148 from (hF 148 (by decide) (by decide) (by decide) (by decide))] at h; exact h) (by have h := hp5; rw [hz6]; omega) (by omega)
set_option maxRecDepth 100000 in
set_option maxHeartbeats 8000000 in
theorem NL_293_112 {X : pm_X} {d : Nat} {wc : pm_W} {Q : pm_R → Prop} {f : Nat → Int32} {A : Nat → List Int32} {x1 x2 x3 x4 x5 : Int32} (hc : wc.length = 147) (hI : MI f A) (gx1 : (0 ≤ x1.toInt ∧ x1.toInt ≤ 1)) (gx2 : ((-1) ≤ x2.toInt ∧ x2.toInt ≤ 2)) (gx3 : (0 ≤ x3.toInt ∧ x3.toInt ≤ 30)) (gx4 : (0 ≤ x4.toInt)) (gx5 : (610 ≤ x5.toInt ∧ x5.toInt ≤ 742 ∧ (x5.toInt - 610) % 132 = 0)) (hpk0 : OB (A 163) 1386 (fr (A 148) x5.toInt)) (k_156_0 : ∀ (y6 : Int32) (y7 : Int32), (0 ≤ y6.toInt ∧ y6.toInt ≤ 12474) → (0 ≤ y7.toInt ∧ y7.toInt ≤ 9) → (y6.toInt + (-1386) * y7.toInt) ≤ 0 → ((-1) * y6.toInt) ≤ 0 → y6.toInt = (ps ((A 163).take y7.toInt.toNat) : Int) → (fr (A 148) x5.toInt) ≤ y7.toInt → pmE pg X pg_tyl pg_cl (d + 7) 293 156 [.ref 147, .int x1, .int x2, .int x3, .int x4, .int x5, .int y6, .int y7] [] (md wc f A) Q) : ∀ (m : Nat) (x6 : Int32) (x7 : Int32), (0 ≤ x6.toInt ∧ x6.toInt ≤ 12474) → (0 ≤ x7.toInt ∧ x7.toInt ≤ 9) → (x6.toInt + (-1386) * x7.toInt) ≤ 0 → ((-1) * x6.toInt) ≤ 0 → x6.toInt = (ps ((A 163).take x7.toInt.toNat) : Int) → 9 - x7.toInt < (m : Int) → pmE pg X pg_tyl pg_cl (d + 7) 293 112 [.ref 147, .int x1, .int x2, .int x3, .int x4, .int x5, .int x6, .int x7] [] (md wc f A) Q := by
  intro m
  induction m with
  | zero =>
    intro x6 x7 gx6 gx7 hxi0 hxi1 hpi0 hm
    exfalso
    have l0 := zi_lo x7
    have u0 := zi_hi x7
    omega
  | succ m ih =>
    intro x6 x7 gx6 gx7 hxi0 hxi1 hpi0 hm
    refine pe_iload (j := 7) (by decide +kernel) rfl ?_
    refine pe_aload_n (j := 0) (by decide +kernel) rfl ?_
    refine pe_get (j := 7) (ci := 12) (n := 0) (by decide +kernel) (by decide +kernel) (md_o hc) rfl ?_
    refine pe_iload (j := 5) (by decide +kernel) rfl ?_
    refine pz_iald (by decide +kernel) (md_a148 hc) (mlen_148 hI) rfl (by omega) (by omega) (fun v1 ev1 => ?_)
    have rv1 : 0 ≤ v1.toInt ∧ v1.toInt ≤ 9 := MT_people (mt_148 hI ev1 (by omega)) (by omega)
    refine pz_icmp_ge (off := 35) (t := 156) (by decide +kernel) (by decide) rfl rfl rfl (fun h2 => ?_) (fun h2 => ?_)
    · skip
      exact k_156_0 x6 x7 (by omega) (by omega) (by omega) (by omega) hpi0 (by rw [(show fr (A 148) (x5.toInt) = v1.toInt from congrArg Int32.toInt ev1.symm)]; omega)
    · skip
      refine pe_iload (j := 6) (by decide +kernel) rfl ?_
      refine pe_aload_n (j := 0) (by decide +kernel) rfl ?_
      refine pe_get (j := 56) (ci := 12) (n := 28) (by decide +kernel) (by decide +kernel) (md_o hc) rfl ?_
      refine pe_iload (j := 7) (by decide +kernel) rfl ?_
      refine pz_iald (by decide +kernel) (md_a163 hc) (mlen_163 hI) rfl (by omega) (by omega) (fun v3 ev3 => ?_)
      have hb4 := hpk0.1 (x7.toInt) (by omega) (by omega)
      rw [(show fr (A 163) (x7.toInt) = v3.toInt from congrArg Int32.toInt ev3.symm)] at hb4
      refine pz_if_le (off := 13) (t := 146) (by decide +kernel) (by decide) rfl rfl (fun h5 => ?_) (fun h5 => ?_)
      · skip
        refine pe_iconstv (n := 0) (v := 0) (by decide +kernel) (by decide +kernel) ?_
        refine pz_add (by decide +kernel) rfl kz_0 (by omega) (by omega) (fun z6 hz6 => ?_)
        refine pe_istore (j := 6) (ls' := [.ref 147, .int x1, .int x2, .int x3, .int x4, .int x5, .int z6, .int x7]) (by decide +kernel) (Nat.le_of_ble_eq_true rfl) rfl ?_
        refine pz_iinc (j := 7) (n := 1) (by decide +kernel) rfl rfl (by decide +kernel) (by omega) (by omega) (fun z7 hz7 => ?_)
        show pmE pg X pg_tyl pg_cl (d + 7) 293 153 [.ref 147, .int x1, .int x2, .int x3, .int x4, .int x5, .int z6, .int z7] [] (md wc f A) _
        refine pe_goto (off := (-41)) (t := 112) (by decide +kernel) (by decide) rfl ?_
        exact ih z6 z7 (by omega) (by omega) (by omega) (by omega) (by have h := ps_one (v := 0) hpi0 (by omega) (by rw [mlen_163 hI]; omega) (by rw [(show fr (A 163) (x7.toInt) = v3.toInt from congrArg Int32.toInt ev3.symm), if_neg (by omega)]); rw [hz7, hz6]; rw [← h]; try omega) (by omega)
      · skip
        refine pe_aload_n (j := 0) (by decide +kernel) rfl ?_
        refine pe_get (j := 56) (ci := 12) (n := 28) (by decide +kernel) (by decide +kernel) (md_o hc) rfl ?_
        refine pe_iload (j := 7) (by decide +kernel) rfl ?_
        refine pz_iald (by decide +kernel) (md_a163 hc) (mlen_163 hI) rfl (by omega) (by omega) (fun v8 ev8 => ?_)
        rw [ev8.trans ev3.symm]
        clear ev8 v8
        refine pe_goto (off := 4) (t := 147) (by decide +kernel) (by decide) rfl ?_
        refine pz_add (by decide +kernel) rfl rfl (by omega) (by omega) (fun z9 hz9 => ?_)
        refine pe_istore (j := 6) (ls' := [.ref 147, .int x1, .int x2, .int x3, .int x4, .int x5, .int z9, .int x7]) (by decide +kernel) (Nat.le_of_ble_eq_true rfl) rfl ?_
        refine pz_iinc (j := 7) (n := 1) (by decide +kernel) rfl rfl (by decide +kernel) (by omega) (by omega) (fun z10 hz10 => ?_)
        show pmE pg X pg_tyl pg_cl (d + 7) 293 153 [.ref 147, .int x1, .int x2, .int x3, .int x4, .int x5, .int z9, .int z10] [] (md wc f A) _
        refine pe_goto (off := (-41)) (t := 112) (by decide +kernel) (by decide) rfl ?_
        exact ih z9 z10 (by omega) (by omega) (by omega) (by omega) (by have h := ps_one (v := v3.toInt) hpi0 (by omega) (by rw [mlen_163 hI]; omega) (by rw [(show fr (A 163) (x7.toInt) = v3.toInt from congrArg Int32.toInt ev3.symm), if_pos (by omega)]); rw [hz10, hz9]; rw [← h]; try omega) (by omega)
set_option maxRecDepth 100000 in
set_option maxHeartbeats 8000000 in
theorem NL_293_59 {X : pm_X} {d : Nat} {wc : pm_W} {Q : pm_R → Prop} {f : Nat → Int32} {A0 : Nat → List Int32} {x1 x2 x3 x4 x5 x6 : Int32} (hc : wc.length = 147) (gx1 : (0 ≤ x1.toInt ∧ x1.toInt ≤ 1)) (gx2 : ((-1) ≤ x2.toInt ∧ x2.toInt ≤ 2)) (gx3 : (0 ≤ x3.toInt ∧ x3.toInt ≤ 30)) (gx4 : (0 ≤ x4.toInt)) (gx5 : (610 ≤ x5.toInt ∧ x5.toInt ≤ 742 ∧ (x5.toInt - 610) % 132 = 0)) (gx6 : (0 ≤ x6.toInt ∧ x6.toInt ≤ 8)) (hpk0 : N0 (A0 152)) (k_100_0 : ∀ (A' : Nat → List Int32) (y7 : Int32), MI f A' → (∀ k : Nat, k ≠ 161 → A' k = A0 k) → (0 ≤ y7.toInt ∧ y7.toInt ≤ 9) → (∀ j : Int, (0) ≤ j → j < (100) → 0 ≤ ((A' 161).getD j.toNat 0).toInt ∧ ((A' 161).getD j.toNat 0).toInt ≤ 99) → True → pmE pg X pg_tyl pg_cl (d + 7) 293 100 [.ref 147, .int x1, .int x2, .int x3, .int x4, .int x5, .int x6, .int y7] [] (md wc f A') Q) : ∀ (m : Nat) (A : Nat → List Int32) (x7 : Int32), MI f A → (∀ k : Nat, k ≠ 161 → A k = A0 k) → (0 ≤ x7.toInt ∧ x7.toInt ≤ 9) → (∀ j : Int, (0) ≤ j → j < (100) → 0 ≤ ((A 161).getD j.toNat 0).toInt ∧ ((A 161).getD j.toNat 0).toInt ≤ 99) → True → 9 - x7.toInt < (m : Int) → pmE pg X pg_tyl pg_cl (d + 7) 293 59 [.ref 147, .int x1, .int x2, .int x3, .int x4, .int x5, .int x6, .int x7] [] (md wc f A) Q := by
  intro m
  induction m with
  | zero =>
    intro A x7 hI hF gx7 hv0 hpi0 hm
    exfalso
    have l0 := zi_lo x7
    have u0 := zi_hi x7
    omega
  | succ m ih =>
    intro A x7 hI hF gx7 hv0 hpi0 hm
    refine pe_iload (j := 7) (by decide +kernel) rfl ?_
    refine pe_aload_n (j := 0) (by decide +kernel) rfl ?_
    refine pe_get (j := 7) (ci := 12) (n := 0) (by decide +kernel) (by decide +kernel) (md_o hc) rfl ?_
    refine pe_iload (j := 5) (by decide +kernel) rfl ?_
    refine pz_iald (by decide +kernel) (md_a148 hc) (mlen_148 hI) rfl (by omega) (by omega) (fun v1 ev1 => ?_)
    have rv1 : 0 ≤ v1.toInt ∧ v1.toInt ≤ 9 := MT_people (mt_148 hI ev1 (by omega)) (by omega)
    rw [show A 148 = A0 148 from (hF 148 (by decide))] at ev1
    refine pz_icmp_ge (off := 32) (t := 100) (by decide +kernel) (by decide) rfl rfl rfl (fun h2 => ?_) (fun h2 => ?_)
    · skip
      have hq3 : (∀ j : Int, (0) ≤ j → j < (100) → 0 ≤ ((A 161).getD j.toNat 0).toInt ∧ ((A 161).getD j.toNat 0).toInt ≤ 99) := by
        intro j h1 h2
        first
        | (exfalso; omega)
        | exact hv0 j (by omega) (by omega)
      exact k_100_0 A x7 hI (fun k n161 => (hF k n161)) (by omega) hq3 trivial
    · skip
      refine pe_aload_n (j := 0) (by decide +kernel) rfl ?_
      refine pe_get (j := 50) (ci := 12) (n := 26) (by decide +kernel) (by decide +kernel) (md_o hc) rfl ?_
      refine pe_bipushv (n := 10) (v := 10) (by decide +kernel) (by decide +kernel) ?_
      refine pe_iload (j := 6) (by decide +kernel) rfl ?_
      refine pz_mul (by decide +kernel) kz_10 rfl (by omega) (by omega) (fun z4 hz4 => ?_)
      refine pe_iload (j := 7) (by decide +kernel) rfl ?_
      refine pz_add (by decide +kernel) hz4 rfl (by omega) (by omega) (fun z5 hz5 => ?_)
      clear hz4
      refine pe_aload_n (j := 0) (by decide +kernel) rfl ?_
      refine pe_iload (j := 5) (by decide +kernel) rfl ?_
      refine pe_iload (j := 6) (by decide +kernel) rfl ?_
      refine pe_iload (j := 7) (by decide +kernel) rfl ?_
      refine pz_callV (j := 199) (mj := 231) (by decide +kernel) (cll_V (args := [.int x7, .int x6, .int x5]) (n := 3) (by decide +kernel) rfl rfl (md_o hc) (by decide +kernel) (Nat.le_of_ble_eq_true rfl) (Nat.le_of_ble_eq_true rfl)) (NM_231 hc hI (by omega) (by omega) (by omega) (by rw [show A 152 = A0 152 from (hF 152 (by decide))]; exact hpk0)) (fun q6a q6b q6c q6d hqq6 => ?_)
      obtain ⟨rq6, eq6, hX0q6, kq6⟩ := hqq6
      cases eq6
      refine ⟨rfl, rfl, ?_⟩
      show pmE pg X pg_tyl pg_cl (d + 7) 293 93 [.ref 147, .int x1, .int x2, .int x3, .int x4, .int x5, .int x6, .int x7] [.int rq6, .int z5, .ref 161] (md wc f A) _
      refine mz_st161 (by decide +kernel) hc hI hz5 (by omega) (by omega) (fun A7 eA7 hIA7 => ?_)
      refine pz_iinc (j := 7) (n := 1) (by decide +kernel) rfl rfl (by decide +kernel) (by omega) (by omega) (fun z8 hz8 => ?_)
      show pmE pg X pg_tyl pg_cl (d + 7) 293 97 [.ref 147, .int x1, .int x2, .int x3, .int x4, .int x5, .int x6, .int z8] [] (md wc f A7) _
      refine pe_goto (off := (-38)) (t := 59) (by decide +kernel) (by decide) rfl ?_
      have hq9 : (∀ j : Int, (0) ≤ j → j < (100) → 0 ≤ ((A7 161).getD j.toNat 0).toInt ∧ ((A7 161).getD j.toNat 0).toInt ≤ 99) := by
        intro j h1 h2
        first
        | (exfalso; omega)
        | (by_cases e : (((10 * x6.toInt) + x7.toInt)).toNat = j.toNat
           · rw [upa_at eA7, ← e, gz_eq (by rw [(mlen_161 hI)]; omega)]; omega
           · rw [upa_at eA7, gz_ne e]; have hh := hv0 j (by omega) (by omega); omega)
      exact ih A7 z8 hIA7 (fun k n161 => (upa_fr eA7 n161).trans ((hF k n161))) (by omega) hq9 trivial (by omega)
set_option maxRecDepth 100000 in
set_option maxHeartbeats 8000000 in
theorem NL_293_44 {X : pm_X} {d : Nat} {wc : pm_W} {Q : pm_R → Prop} {f : Nat → Int32} {A0 : Nat → List Int32} {x1 x2 x3 x4 x5 : Int32} (hc : wc.length = 147) (gx1 : (0 ≤ x1.toInt ∧ x1.toInt ≤ 1)) (gx2 : ((-1) ≤ x2.toInt ∧ x2.toInt ≤ 2)) (gx3 : (0 ≤ x3.toInt ∧ x3.toInt ≤ 30)) (gx4 : (0 ≤ x4.toInt)) (gx5 : (610 ≤ x5.toInt ∧ x5.toInt ≤ 742 ∧ (x5.toInt - 610) % 132 = 0)) (hpk0 : N0 (A0 152)) (k_106_0 : ∀ (A' : Nat → List Int32) (y6 : Int32) (v7 : Value), MI f A' → (∀ k : Nat, k ≠ 161 → A' k = A0 k) → (0 ≤ y6.toInt ∧ y6.toInt ≤ 9) → (∀ j : Int, (0) ≤ j → j < (100) → 0 ≤ ((A' 161).getD j.toNat 0).toInt ∧ ((A' 161).getD j.toNat 0).toInt ≤ 99) → True → pmE pg X pg_tyl pg_cl (d + 7) 293 106 [.ref 147, .int x1, .int x2, .int x3, .int x4, .int x5, .int y6, v7] [] (md wc f A') Q) : ∀ (m : Nat) (A : Nat → List Int32) (x6 : Int32) (u7 : Value), MI f A → (∀ k : Nat, k ≠ 161 → A k = A0 k) → (0 ≤ x6.toInt ∧ x6.toInt ≤ 9) → (∀ j : Int, (0) ≤ j → j < (100) → 0 ≤ ((A 161).getD j.toNat 0).toInt ∧ ((A 161).getD j.toNat 0).toInt ≤ 99) → True → 9 - x6.toInt < (m : Int) → pmE pg X pg_tyl pg_cl (d + 7) 293 44 [.ref 147, .int x1, .int x2, .int x3, .int x4, .int x5, .int x6, u7] [] (md wc f A) Q := by
  intro m
  induction m with
  | zero =>
    intro A x6 u7 hI hF gx6 hv0 hpi0 hm
    exfalso
    have l0 := zi_lo x6
    have u0 := zi_hi x6
    omega
  | succ m ih =>
    intro A x6 u7 hI hF gx6 hv0 hpi0 hm
    refine pe_iload (j := 6) (by decide +kernel) rfl ?_
    refine pe_aload_n (j := 0) (by decide +kernel) rfl ?_
    refine pe_get (j := 7) (ci := 12) (n := 0) (by decide +kernel) (by decide +kernel) (md_o hc) rfl ?_
    refine pe_iload (j := 5) (by decide +kernel) rfl ?_
    refine pz_iald (by decide +kernel) (md_a148 hc) (mlen_148 hI) rfl (by omega) (by omega) (fun v1 ev1 => ?_)
    have rv1 : 0 ≤ v1.toInt ∧ v1.toInt ≤ 9 := MT_people (mt_148 hI ev1 (by omega)) (by omega)
    rw [show A 148 = A0 148 from (hF 148 (by decide))] at ev1
    refine pz_icmp_ge (off := 53) (t := 106) (by decide +kernel) (by decide) rfl rfl rfl (fun h2 => ?_) (fun h2 => ?_)
    · skip
      have hq3 : (∀ j : Int, (0) ≤ j → j < (100) → 0 ≤ ((A 161).getD j.toNat 0).toInt ∧ ((A 161).getD j.toNat 0).toInt ≤ 99) := by
        intro j h1 h2
        first
        | (exfalso; omega)
        | exact hv0 j (by omega) (by omega)
      exact k_106_0 A x6 (u7) hI (fun k n161 => (hF k n161)) (by omega) hq3 trivial
    · skip
      refine pe_iconstv (n := 0) (v := 0) (by decide +kernel) (by decide +kernel) ?_
      refine pe_istore (j := 7) (ls' := [.ref 147, .int x1, .int x2, .int x3, .int x4, .int x5, .int x6, .int 0]) (by decide +kernel) (Nat.le_of_ble_eq_true rfl) rfl ?_
      have hq9 : (∀ j : Int, (0) ≤ j → j < (100) → 0 ≤ ((A 161).getD j.toNat 0).toInt ∧ ((A 161).getD j.toNat 0).toInt ≤ 99) := by
        intro j h1 h2
        first
        | (exfalso; omega)
        | exact hv0 j (by omega) (by omega)
      refine NL_293_59 hc (by omega) (by omega) (by omega) (by omega) (by omega) (by omega) (by rw [show A 152 = A0 152 from (hF 152 (by decide))]; exact hpk0) (fun A4 y5 hIy6 hFA4 gy5 hq7 hp8 => ?_) 10 A 0 hI (fun k _ => rfl) (by decide +kernel) hq9 trivial (by decide +kernel)
      refine pz_iinc (j := 6) (n := 1) (by decide +kernel) rfl rfl (by decide +kernel) (by omega) (by omega) (fun z10 hz10 => ?_)
      show pmE pg X pg_tyl pg_cl (d + 7) 293 103 [.ref 147, .int x1, .int x2, .int x3, .int x4, .int x5, .int z10, .int y5] [] (md wc f A4) _
      refine pe_goto (off := (-59)) (t := 44) (by decide +kernel) (by decide) rfl ?_
      have hq11 : (∀ j : Int, (0) ≤ j → j < (100) → 0 ≤ ((A4 161).getD j.toNat 0).toInt ∧ ((A4 161).getD j.toNat 0).toInt ≤ 99) := by
        intro j h1 h2
        first
        | (exfalso; omega)
        | exact hq7 j (by omega) (by omega)
      exact ih A4 z10 (.int y5) hIy6 (fun k n161 => ((hFA4 k n161)).trans ((hF k n161))) (by omega) hq11 trivial (by omega)
set_option maxRecDepth 100000 in
set_option maxHeartbeats 8000000 in
theorem NM_293 {X : pm_X} {d : Nat} {wc : pm_W} {f : Nat → Int32} {A : Nat → List Int32} {x1 x2 x3 x4 : Int32} (hc : wc.length = 147) (hI : MI f A) : pmE pg X pg_tyl pg_cl (d + 7) 293 0 (pm_ent (pm_max pg 293) [.ref 147, .int x1, .int x2, .int x3, .int x4]) [] (md wc f A) (fun q => ∃ (f' : Nat → Int32) (A' : Nat → List Int32) (r : Int32), q = (some (.int r), md wc f' A', 0, 0) ∧ MI f' A' ∧ (∀ k : Nat, k ≠ 14 → k ≠ 15 → k ≠ 16 → f' k = f k) ∧ (∀ k : Nat, k ≠ 152 → k ≠ 153 → k ≠ 160 → k ≠ 161 → k ≠ 162 → k ≠ 163 → k ≠ 164 → k ≠ 165 → A' k = A k) ∧ ((True ∧ True))) := by
  show pmE pg X pg_tyl pg_cl (d + 7) 293 0 [.ref 147, .int x1, .int x2, .int x3, .int x4, pm_dead, pm_dead, pm_dead] [] (md wc f A) _
  refine pe_aload_n (j := 0) (by decide +kernel) rfl ?_
  refine pe_iload_n (j := 1) (by decide +kernel) rfl ?_
  refine pe_iload_n (j := 2) (by decide +kernel) rfl ?_
  refine pe_iload_n (j := 3) (by decide +kernel) rfl ?_
  refine pz_callV (j := 232) (mj := 246) (by decide +kernel) (cll_V (args := [.int x3, .int x2, .int x1]) (n := 3) (by decide +kernel) rfl rfl (md_o hc) (by decide +kernel) (Nat.le_of_ble_eq_true rfl) (Nat.le_of_ble_eq_true rfl)) (NM_246 hc hI) (fun q1a q1b q1c q1d hqq1 => ?_)
  obtain ⟨f2, A3, rq1, eq1, hIq1, hGq1, hFq1, kq1⟩ := hqq1
  cases eq1
  refine ⟨rfl, rfl, ?_⟩
  rcases kq1 with kq1 | kq1
  · skip
    obtain ⟨erq1, kq1⟩ := kq1
    subst erq1
    show pmE pg X pg_tyl pg_cl (d + 7) 293 7 [.ref 147, .int x1, .int x2, .int x3, .int x4, pm_dead, pm_dead, pm_dead] [.int 0] (md wc f2 A3) _
    refine pz_if_eq (off := 17) (t := 24) (by decide +kernel) (by decide) rfl kz_0 (fun h4 => ?_) (fun h4 => by omega)
    refine pe_iconstv (n := (-1)) (v := (-1)) (by decide +kernel) (by decide +kernel) ?_
    exact pe_iret (by decide +kernel) rfl rfl ⟨f2, A3, (-1), rfl, hIq1, (fun k n14 n15 n16 => (hGq1 k n14 n15 n16)), (fun k n152 n153 n160 n161 n162 n163 n164 n165 => (hFq1 k n152 n153)), ⟨trivial, trivial⟩⟩
  · skip
    obtain ⟨erq1, kq1⟩ := kq1
    subst erq1
    obtain ⟨hp5, kq1⟩ := kq1
    show pmE pg X pg_tyl pg_cl (d + 7) 293 7 [.ref 147, .int x1, .int x2, .int x3, .int x4, pm_dead, pm_dead, pm_dead] [.int 1] (md wc f2 A3) _
    refine pz_if_eq (off := 17) (t := 24) (by decide +kernel) (by decide) rfl kz_1 (fun h6 => by omega) (fun h6 => ?_)
    refine pe_aload_n (j := 0) (by decide +kernel) rfl ?_
    refine pe_iconstv (n := 0) (v := 0) (by decide +kernel) (by decide +kernel) ?_
    refine pe_iload_n (j := 1) (by decide +kernel) rfl ?_
    refine pi_S (j := 163) (mj := 217) (by decide +kernel) (by decide +kernel) rfl ?_
    show pmE pg X pg_tyl pg_cl (d + 6) 217 0 [.int 0, .int x1] [] (md wc f2 A3) _
    refine pe_iload_n (j := 0) (by decide +kernel) rfl ?_
    refine pz_if_ne (off := 15) (t := 16) (by decide +kernel) (by decide) rfl kz_0 (fun h7 => by omega) (fun h7 => ?_)
    refine pe_sipushv (n := 610) (v := 610) (by decide +kernel) (by decide +kernel) ?_
    refine pe_sipushv (n := 132) (v := 132) (by decide +kernel) (by decide +kernel) ?_
    refine pe_iload_n (j := 1) (by decide +kernel) rfl ?_
    refine pz_mul (by decide +kernel) kz_132 rfl (by omega) (by omega) (fun z8 hz8 => ?_)
    refine pz_add (by decide +kernel) kz_610 hz8 (by omega) (by omega) (fun z9 hz9 => ?_)
    clear hz8
    refine pe_goto (off := 12) (t := 25) (by decide +kernel) (by decide) rfl ?_
    refine pe_iret (by decide +kernel) rfl rfl ⟨rfl, rfl, ?_⟩
    show pmE pg X pg_tyl pg_cl (d + 7) 293 16 [.ref 147, .int x1, .int x2, .int x3, .int x4, pm_dead, pm_dead, pm_dead] [.int z9, .ref 147] (md wc f2 A3) _
    refine pe_iload (j := 4) (by decide +kernel) rfl ?_
    refine pi_V (j := 334) (mj := 283) (by decide +kernel) (cll_V (args := [.int x4, .int z9]) (n := 2) (by decide +kernel) rfl rfl (md_o hc) (by decide +kernel) (Nat.le_of_ble_eq_true rfl) (Nat.le_of_ble_eq_true rfl)) ?_
    show pmE pg X pg_tyl pg_cl (d + 6) 283 0 [.ref 147, .int z9, .int x4] [] (md wc f2 A3) _
    refine pe_iload_n (j := 2) (by decide +kernel) rfl ?_
    have lw11 := zi_lo x4
    have uw11 := zi_hi x4
    refine pz_if_lt (off := 20) (t := 21) (by decide +kernel) (by decide) rfl rfl (fun h10 => ?_) (fun h10 => ?_)
    · skip
      refine pe_iconstv (n := 0) (v := 0) (by decide +kernel) (by decide +kernel) ?_
      refine pe_iret (by decide +kernel) rfl rfl ⟨rfl, rfl, ?_⟩
      show pmE pg X pg_tyl pg_cl (d + 7) 293 21 [.ref 147, .int x1, .int x2, .int x3, .int x4, pm_dead, pm_dead, pm_dead] [.int 0] (md wc f2 A3) _
      refine pz_if_ne (off := 5) (t := 26) (by decide +kernel) (by decide) rfl kz_0 (fun h12 => by omega) (fun h12 => ?_)
      refine pe_iconstv (n := (-1)) (v := (-1)) (by decide +kernel) (by decide +kernel) ?_
      exact pe_iret (by decide +kernel) rfl rfl ⟨f2, A3, (-1), rfl, hIq1, (fun k n14 n15 n16 => (hGq1 k n14 n15 n16)), (fun k n152 n153 n160 n161 n162 n163 n164 n165 => (hFq1 k n152 n153)), ⟨trivial, trivial⟩⟩
    · skip
      refine pe_iload_n (j := 2) (by decide +kernel) rfl ?_
      refine pe_aload_n (j := 0) (by decide +kernel) rfl ?_
      refine pe_get (j := 7) (ci := 12) (n := 0) (by decide +kernel) (by decide +kernel) (md_o hc) rfl ?_
      refine pe_iload_n (j := 1) (by decide +kernel) rfl ?_
      refine pe_iconstv (n := 1) (v := 1) (by decide +kernel) (by decide +kernel) ?_
      refine pz_add (by decide +kernel) hz9 kz_1 (by omega) (by omega) (fun z13 hz13 => ?_)
      refine pz_iald (by decide +kernel) (md_a148 hc) (mlen_148 hIq1) hz13 (by omega) (by omega) (fun v14 ev14 => ?_)
      have rv14 : 0 ≤ v14.toInt ∧ v14.toInt ≤ 7 := MT_wants (mt_148 hIq1 ev14 (by omega)) (by omega)
      rw [show A3 148 = A 148 from (hFq1 148 (by decide) (by decide))] at ev14
      clear hz13
      refine pw_shr (by decide +kernel) (fun z15 => ?_)
      have lw17 := zi_lo z15
      have uw17 := zi_hi z15
      refine pz_if_ne (off := 7) (t := 21) (by decide +kernel) (by decide) rfl rfl (fun h16 => ?_) (fun h16 => ?_)
      · skip
        refine pe_iconstv (n := 0) (v := 0) (by decide +kernel) (by decide +kernel) ?_
        refine pe_iret (by decide +kernel) rfl rfl ⟨rfl, rfl, ?_⟩
        show pmE pg X pg_tyl pg_cl (d + 7) 293 21 [.ref 147, .int x1, .int x2, .int x3, .int x4, pm_dead, pm_dead, pm_dead] [.int 0] (md wc f2 A3) _
        refine pz_if_ne (off := 5) (t := 26) (by decide +kernel) (by decide) rfl kz_0 (fun h18 => by omega) (fun h18 => ?_)
        refine pe_iconstv (n := (-1)) (v := (-1)) (by decide +kernel) (by decide +kernel) ?_
        exact pe_iret (by decide +kernel) rfl rfl ⟨f2, A3, (-1), rfl, hIq1, (fun k n14 n15 n16 => (hGq1 k n14 n15 n16)), (fun k n152 n153 n160 n161 n162 n163 n164 n165 => (hFq1 k n152 n153)), ⟨trivial, trivial⟩⟩
      · skip
        refine pe_iconstv (n := 1) (v := 1) (by decide +kernel) (by decide +kernel) ?_
        refine pe_goto (off := 4) (t := 22) (by decide +kernel) (by decide) rfl ?_
        refine pe_iret (by decide +kernel) rfl rfl ⟨rfl, rfl, ?_⟩
        show pmE pg X pg_tyl pg_cl (d + 7) 293 21 [.ref 147, .int x1, .int x2, .int x3, .int x4, pm_dead, pm_dead, pm_dead] [.int 1] (md wc f2 A3) _
        refine pz_if_ne (off := 5) (t := 26) (by decide +kernel) (by decide) rfl kz_1 (fun h19 => ?_) (fun h19 => by omega)
        refine pe_iconstv (n := 0) (v := 0) (by decide +kernel) (by decide +kernel) ?_
        refine pe_iload_n (j := 1) (by decide +kernel) rfl ?_
        refine pi_S (j := 163) (mj := 217) (by decide +kernel) (by decide +kernel) rfl ?_
        show pmE pg X pg_tyl pg_cl (d + 6) 217 0 [.int 0, .int x1] [] (md wc f2 A3) _
        refine pe_iload_n (j := 0) (by decide +kernel) rfl ?_
        refine pz_if_ne (off := 15) (t := 16) (by decide +kernel) (by decide) rfl kz_0 (fun h20 => by omega) (fun h20 => ?_)
        refine pe_sipushv (n := 610) (v := 610) (by decide +kernel) (by decide +kernel) ?_
        refine pe_sipushv (n := 132) (v := 132) (by decide +kernel) (by decide +kernel) ?_
        refine pe_iload_n (j := 1) (by decide +kernel) rfl ?_
        refine pz_mul (by decide +kernel) kz_132 rfl (by omega) (by omega) (fun z21 hz21 => ?_)
        refine pz_add (by decide +kernel) kz_610 hz21 (by omega) (by omega) (fun z22 hz22 => ?_)
        clear hz21
        refine pe_goto (off := 12) (t := 25) (by decide +kernel) (by decide) rfl ?_
        refine pe_iret (by decide +kernel) rfl rfl ⟨rfl, rfl, ?_⟩
        show pmE pg X pg_tyl pg_cl (d + 7) 293 31 [.ref 147, .int x1, .int x2, .int x3, .int x4, pm_dead, pm_dead, pm_dead] [.int z22] (md wc f2 A3) _
        refine pe_istore (j := 5) (ls' := [.ref 147, .int x1, .int x2, .int x3, .int x4, .int z22, pm_dead, pm_dead]) (by decide +kernel) (Nat.le_of_ble_eq_true rfl) rfl ?_
        refine pe_aload_n (j := 0) (by decide +kernel) rfl ?_
        refine pe_iload (j := 5) (by decide +kernel) rfl ?_
        refine pe_iload (j := 4) (by decide +kernel) rfl ?_
        refine pz_callV (j := 331) (mj := 285) (by decide +kernel) (cll_V (args := [.int x4, .int z22]) (n := 2) (by decide +kernel) rfl rfl (md_o hc) (by decide +kernel) (Nat.le_of_ble_eq_true rfl) (Nat.le_of_ble_eq_true rfl)) (NM_285 hc hIq1 (by omega)) (fun q23a q23b q23c q23d hqq23 => ?_)
        obtain ⟨A24, eq23, hIq23, hFq23, kq23⟩ := hqq23
        cases eq23
        refine ⟨rfl, rfl, ?_⟩
        obtain ⟨hp25, kq23⟩ := kq23
        have hq26 := AK_q hp25 (by decide)
        show pmE pg X pg_tyl pg_cl (d + 7) 293 41 [.ref 147, .int x1, .int x2, .int x3, .int x4, .int z22, pm_dead, pm_dead] [] (md wc f2 A24) _
        have hq27 := AK_w hp25
        refine pe_iconstv (n := 0) (v := 0) (by decide +kernel) (by decide +kernel) ?_
        refine pe_istore (j := 6) (ls' := [.ref 147, .int x1, .int x2, .int x3, .int x4, .int z22, .int 0, pm_dead]) (by decide +kernel) (Nat.le_of_ble_eq_true rfl) rfl ?_
        have hq34 : (∀ j : Int, (0) ≤ j → j < (100) → 0 ≤ ((A24 161).getD j.toNat 0).toInt ∧ ((A24 161).getD j.toNat 0).toInt ≤ 99) := by
          intro j h1 h2
          first
          | (exfalso; omega)
          | exact hq27 j (by omega) (by omega)
        refine NL_293_44 hc (by omega) (by omega) (by omega) (by omega) (by omega) (by rw [show A24 152 = A3 152 from (hFq23 152 (by decide) (by decide) (by decide) (by decide))]; exact DF_n0 hp5 (by decide)) (fun A28 y29 u30 hIy31 hFA28 gy29 hq32 hp33 => ?_) 10 A24 0 (pm_dead) hIq23 (fun k _ => rfl) (by decide +kernel) hq34 trivial (by decide +kernel)
        have hpe := mpeo (v := z22.toInt) hIy31 (by omega)
        have hgj0 : GJ A28 (fr (A28 148) z22.toInt) := GJ_zero hpe.2 hp25 (by rw [show A28 148 = A24 148 from (hFA28 148 (by decide))]) (mlen_163 hIq23) ((hFA28 160 (by decide))) ((hFA28 162 (by decide))) ((hFA28 163 (by decide))) (fun j j0 j1 => hq32 j j0 j1)
        refine pe_iconstv (n := 0) (v := 0) (by decide +kernel) (by decide +kernel) ?_
        refine pe_istore (j := 6) (ls' := [.ref 147, .int x1, .int x2, .int x3, .int x4, .int z22, .int 0, u30]) (by decide +kernel) (Nat.le_of_ble_eq_true rfl) rfl ?_
        refine pe_iconstv (n := 0) (v := 0) (by decide +kernel) (by decide +kernel) ?_
        refine pe_istore (j := 7) (ls' := [.ref 147, .int x1, .int x2, .int x3, .int x4, .int z22, .int 0, .int 0]) (by decide +kernel) (Nat.le_of_ble_eq_true rfl) rfl ?_
        have hl41 := kz_0
        have hl42 := kz_0
        have hl43 := kz_0
        refine NL_293_112 hc hIy31 (by omega) (by omega) (by omega) (by omega) (by omega) hgj0.2.1 (fun y35 y36 gy35 gy36 hx37 hx38 hp39 hp40 => ?_) 10 0 0 (by decide +kernel) (by decide +kernel) (by omega) (by omega) (by rw [kz_0]; rfl) (by decide +kernel)
        have hlf := hp39
        rw [ps_all hgj0.2.1 (mlen_163 hIy31) hp40 (by omega)] at hlf
        refine pe_iconstv (n := 0) (v := 0) (by decide +kernel) (by decide +kernel) ?_
        refine pe_istore (j := 7) (ls' := [.ref 147, .int x1, .int x2, .int x3, .int x4, .int z22, .int y35, .int 0]) (by decide +kernel) (Nat.le_of_ble_eq_true rfl) rfl ?_
        refine NL_293_159 hc (by omega) (by omega) (by omega) (by omega) (by omega) (by omega) (fun A44 y45 hIy46 hFA44 gy45 hp47 hp48 => ?_) 12475 A28 0 hIy31 (fun k _ _ _ _ => rfl) (by decide +kernel) hgj0 (by rw [kz_0]; omega) (by decide +kernel)
        refine pe_aload_n (j := 0) (by decide +kernel) rfl ?_
        refine pe_iload (j := 5) (by decide +kernel) rfl ?_
        refine pz_callV (j := 358) (mj := 297) (by decide +kernel) (cll_V (args := [.int z22]) (n := 1) (by decide +kernel) rfl rfl (md_o hc) (by decide +kernel) (Nat.le_of_ble_eq_true rfl) (Nat.le_of_ble_eq_true rfl)) (MM_297 hc hIy46 (by omega)) (fun q49a q49b q49c q49d hqq49 => ?_)
        obtain ⟨rq49, eq49, kq49⟩ := hqq49
        cases eq49
        refine ⟨rfl, rfl, ?_⟩
        show pmE pg X pg_tyl pg_cl (d + 7) 293 184 [.ref 147, .int x1, .int x2, .int x3, .int x4, .int z22, .int y35, .int y45] [.int rq49] (md wc f2 A44) _
        exact pe_iret (by decide +kernel) rfl rfl ⟨f2, A44, rq49, rfl, hIy46, (fun k n14 n15 n16 => (hGq1 k n14 n15 n16)), (fun k n152 n153 n160 n161 n162 n163 n164 n165 => ((hFA44 k n162 n163 n164 n165)).trans (((hFA28 k n161)).trans (((hFq23 k n160 n161 n162 n163)).trans ((hFq1 k n152 n153))))), ⟨trivial, trivial⟩⟩
