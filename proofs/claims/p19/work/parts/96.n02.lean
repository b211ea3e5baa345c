set_option maxRecDepth 100000 in
set_option maxHeartbeats 8000000 in
theorem NM_307 {X : pm_X} {d : Nat} {wc : pm_W} {f : Nat → Int32} {A : Nat → List Int32} {x1 x2 x3 x4 x5 : Int32} (hc : wc.length = 147) (hI : MI f A) : pmE pg X pg_tyl pg_cl (d + 8) 307 0 (pm_ent (pm_max pg 307) [.ref 147, .int x1, .int x2, .int x3, .int x4, .int x5]) [] (md wc f A) (fun q => ∃ (f' : Nat → Int32) (A' : Nat → List Int32) (r : Int32), q = (some (.int r), md wc f' A', 0, 0) ∧ MI f' A' ∧ (∀ k : Nat, k ≠ 14 → k ≠ 15 → k ≠ 16 → k ≠ 31 → k ≠ 32 → f' k = f k) ∧ (∀ k : Nat, k ≠ 152 → k ≠ 153 → k ≠ 160 → k ≠ 161 → k ≠ 162 → k ≠ 163 → k ≠ 164 → A' k = A k) ∧ ((True ∧ True))) := by
  show pmE pg X pg_tyl pg_cl (d + 8) 307 0 [.ref 147, .int x1, .int x2, .int x3, .int x4, .int x5, pm_dead] [] (md wc f A) _
  refine pe_iload (j := 4) (by decide +kernel) rfl ?_
  refine pe_iload (j := 5) (by decide +kernel) rfl ?_
  have lw2 := zi_lo x4
  have uw2 := zi_hi x4
  have lw3 := zi_lo x5
  have uw3 := zi_hi x5
  refine pz_icmp_eq (off := 17) (t := 21) (by decide +kernel) (by decide) rfl rfl rfl (fun h1 => ?_) (fun h1 => ?_)
  · skip
    refine pe_iconstv (n := (-1)) (v := (-1)) (by decide +kernel) (by decide +kernel) ?_
    exact pe_iret (by decide +kernel) rfl rfl ⟨f, A, (-1), rfl, hI, (fun k n14 n15 n16 n31 n32 => rfl), (fun k n152 n153 n160 n161 n162 n163 n164 => rfl), ⟨trivial, trivial⟩⟩
  · skip
    refine pe_aload_n (j := 0) (by decide +kernel) rfl ?_
    refine pe_iload_n (j := 1) (by decide +kernel) rfl ?_
    refine pe_iload_n (j := 2) (by decide +kernel) rfl ?_
    refine pe_iload_n (j := 3) (by decide +kernel) rfl ?_
    refine pe_iload (j := 4) (by decide +kernel) rfl ?_
    refine pe_iload (j := 5) (by decide +kernel) rfl ?_
    refine pz_callV (j := 235) (mj := 245) (by decide +kernel) (cll_V (args := [.int x5, .int x4, .int x3, .int x2, .int x1]) (n := 5) (by decide +kernel) rfl rfl (md_o hc) (by decide +kernel) (Nat.le_of_ble_eq_true rfl) (Nat.le_of_ble_eq_true rfl)) (MM_245 hc hI) (fun q4a q4b q4c q4d hqq4 => ?_)
    obtain ⟨f5, A6, rq4, eq4, hIq4, hGq4, hFq4, kq4⟩ := hqq4
    cases eq4
    refine ⟨rfl, rfl, ?_⟩
    rcases kq4 with kq4 | kq4
    · skip
      obtain ⟨erq4, kq4⟩ := kq4
      subst erq4
      show pmE pg X pg_tyl pg_cl (d + 8) 307 18 [.ref 147, .int x1, .int x2, .int x3, .int x4, .int x5, pm_dead] [.int 0] (md wc f5 A6) _
      refine pz_if_ne (off := 5) (t := 23) (by decide +kernel) (by decide) rfl kz_0 (fun h7 => by omega) (fun h7 => ?_)
      refine pe_iconstv (n := (-1)) (v := (-1)) (by decide +kernel) (by decide +kernel) ?_
      exact pe_iret (by decide +kernel) rfl rfl ⟨f5, A6, (-1), rfl, hIq4, (fun k n14 n15 n16 n31 n32 => (hGq4 k n14 n15 n16)), (fun k n152 n153 n160 n161 n162 n163 n164 => (hFq4 k n152 n153)), ⟨trivial, trivial⟩⟩
    · skip
      obtain ⟨erq4, kq4⟩ := kq4
      subst erq4
      show pmE pg X pg_tyl pg_cl (d + 8) 307 18 [.ref 147, .int x1, .int x2, .int x3, .int x4, .int x5, pm_dead] [.int 1] (md wc f5 A6) _
      refine pz_if_ne (off := 5) (t := 23) (by decide +kernel) (by decide) rfl kz_1 (fun h8 => ?_) (fun h8 => by omega)
      refine pe_iconstv (n := 0) (v := 0) (by decide +kernel) (by decide +kernel) ?_
      refine pe_iload_n (j := 1) (by decide +kernel) rfl ?_
      refine pi_S (j := 163) (mj := 217) (by decide +kernel) (by decide +kernel) rfl ?_
      show pmE pg X pg_tyl pg_cl (d + 7) 217 0 [.int 0, .int x1] [] (md wc f5 A6) _
      refine pe_iload_n (j := 0) (by decide +kernel) rfl ?_
      refine pz_if_ne (off := 15) (t := 16) (by decide +kernel) (by decide) rfl kz_0 (fun h9 => by omega) (fun h9 => ?_)
      refine pe_sipushv (n := 610) (v := 610) (by decide +kernel) (by decide +kernel) ?_
      refine pe_sipushv (n := 132) (v := 132) (by decide +kernel) (by decide +kernel) ?_
      refine pe_iload_n (j := 1) (by decide +kernel) rfl ?_
      refine pz_mul (by decide +kernel) kz_132 rfl (by omega) (by omega) (fun z10 hz10 => ?_)
      refine pz_add (by decide +kernel) kz_610 hz10 (by omega) (by omega) (fun z11 hz11 => ?_)
      clear hz10
      refine pe_goto (off := 12) (t := 25) (by decide +kernel) (by decide) rfl ?_
      refine pe_iret (by decide +kernel) rfl rfl ⟨rfl, rfl, ?_⟩
      show pmE pg X pg_tyl pg_cl (d + 8) 307 28 [.ref 147, .int x1, .int x2, .int x3, .int x4, .int x5, pm_dead] [.int z11] (md wc f5 A6) _
      refine pe_istore (j := 6) (ls' := [.ref 147, .int x1, .int x2, .int x3, .int x4, .int x5, .int z11]) (by decide +kernel) (Nat.le_of_ble_eq_true rfl) rfl ?_
      refine pe_aload_n (j := 0) (by decide +kernel) rfl ?_
      refine pe_iload (j := 6) (by decide +kernel) rfl ?_
      refine pe_iload (j := 4) (by decide +kernel) rfl ?_
      refine pe_iload (j := 5) (by decide +kernel) rfl ?_
      refine pz_callV (j := 377) (mj := 308) (by decide +kernel) (cll_V (args := [.int x5, .int x4, .int z11]) (n := 3) (by decide +kernel) rfl rfl (md_o hc) (by decide +kernel) (Nat.le_of_ble_eq_true rfl) (Nat.le_of_ble_eq_true rfl)) (NM_308 hc hIq4 (by omega)) (fun q12a q12b q12c q12d hqq12 => ?_)
      obtain ⟨f13, A14, rq12, eq12, hIq12, hGq12, hFq12, kq12⟩ := hqq12
      cases eq12
      refine ⟨rfl, rfl, ?_⟩
      show pmE pg X pg_tyl pg_cl (d + 8) 307 40 [.ref 147, .int x1, .int x2, .int x3, .int x4, .int x5, .int z11] [.int rq12] (md wc f13 A14) _
      refine pe_aload_n (j := 0) (by decide +kernel) rfl ?_
      refine pe_iload (j := 6) (by decide +kernel) rfl ?_
      refine pe_aload_n (j := 0) (by decide +kernel) rfl ?_
      refine pe_iload (j := 6) (by decide +kernel) rfl ?_
      refine pe_iconstv (n := 0) (v := 0) (by decide +kernel) (by decide +kernel) ?_
      refine pe_iconstv (n := (-1)) (v := (-1)) (by decide +kernel) (by decide +kernel) ?_
      refine pz_callV (j := 346) (mj := 287) (by decide +kernel) (cll_V (args := [.int (-1), .int 0, .int z11]) (n := 3) (by decide +kernel) rfl rfl (md_o hc) (by decide +kernel) (Nat.le_of_ble_eq_true rfl) (Nat.le_of_ble_eq_true rfl)) (NM_287 hc hIq12 (by omega)) (fun q15a q15b q15c q15d hqq15 => ?_)
      obtain ⟨A16, rq15, eq15, hIq15, hFq15, kq15⟩ := hqq15
      cases eq15
      refine ⟨rfl, rfl, ?_⟩
      show pmE pg X pg_tyl pg_cl (d + 8) 307 51 [.ref 147, .int x1, .int x2, .int x3, .int x4, .int x5, .int z11] [.int rq15, .int z11, .ref 147, .int rq12] (md wc f13 A16) _
      refine pz_callV (j := 340) (mj := 288) (by decide +kernel) (cll_V (args := [.int rq15, .int z11]) (n := 2) (by decide +kernel) rfl rfl (md_o hc) (by decide +kernel) (Nat.le_of_ble_eq_true rfl) (Nat.le_of_ble_eq_true rfl)) (MM_288 hc hIq15 (by omega)) (fun q17a q17b q17c q17d hqq17 => ?_)
      obtain ⟨rq17, eq17, kq17⟩ := hqq17
      cases eq17
      refine ⟨rfl, rfl, ?_⟩
      show pmE pg X pg_tyl pg_cl (d + 8) 307 54 [.ref 147, .int x1, .int x2, .int x3, .int x4, .int x5, .int z11] [.int rq17, .int rq12] (md wc f13 A16) _
      refine pw_sub (by decide +kernel) (fun z18 => ?_)
      exact pe_iret (by decide +kernel) rfl rfl ⟨f13, A16, z18, rfl, hIq15, (fun k n14 n15 n16 n31 n32 => ((hGq12 k n31 n32)).trans ((hGq4 k n14 n15 n16))), (fun k n152 n153 n160 n161 n162 n163 n164 => ((hFq15 k n160 n161 n162 n163 n164)).trans (((hFq12 k n160 n161 n162 n163 n164)).trans ((hFq4 k n152 n153)))), ⟨trivial, trivial⟩⟩
set_option maxRecDepth 100000 in
set_option maxHeartbeats 8000000 in
theorem NL_309_41 {X : pm_X} {d : Nat} {wc : pm_W} {Q : pm_R → Prop} {f0 : Nat → Int32} {A0 : Nat → List Int32} {x1 x2 x3 x4 x5 : Int32} (hc : wc.length = 147) (gx1 : (0 ≤ x1.toInt ∧ x1.toInt ≤ 1)) (gx2 : ((-1) ≤ x2.toInt ∧ x2.toInt ≤ 2)) (gx3 : (0 ≤ x3.toInt ∧ x3.toInt ≤ 30)) (gx5 : (610 ≤ x5.toInt ∧ x5.toInt ≤ 742 ∧ (x5.toInt - 610) % 132 = 0)) (k_124_0 : ∀ (f' : Nat → Int32) (A' : Nat → List Int32) (y6 : Int32) (y7 : Int32) (y8 : Int32) (v9 : Value), MI f' A' → (∀ k : Nat, k ≠ 31 → k ≠ 32 → f' k = f0 k) → (∀ k : Nat, k ≠ 160 → k ≠ 161 → k ≠ 162 → k ≠ 163 → k ≠ 164 → A' k = A0 k) → ((-1) ≤ y7.toInt) → (0 ≤ y8.toInt ∧ y8.toInt ≤ 81) → pmE pg X pg_tyl pg_cl (d + 7) 309 124 [.ref 147, .int x1, .int x2, .int x3, .int x4, .int x5, .int y6, .int y7, .int y8, v9] [] (md wc f' A') Q) : ∀ (m : Nat) (f : Nat → Int32) (A : Nat → List Int32) (x6 : Int32) (x7 : Int32) (x8 : Int32) (u9 : Value), MI f A → (∀ k : Nat, k ≠ 31 → k ≠ 32 → f k = f0 k) → (∀ k : Nat, k ≠ 160 → k ≠ 161 → k ≠ 162 → k ≠ 163 → k ≠ 164 → A k = A0 k) → ((-1) ≤ x7.toInt) → (0 ≤ x8.toInt ∧ x8.toInt ≤ 81) → 81 - x8.toInt < (m : Int) → pmE pg X pg_tyl pg_cl (d + 7) 309 41 [.ref 147, .int x1, .int x2, .int x3, .int x4, .int x5, .int x6, .int x7, .int x8, u9] [] (md wc f A) Q := by
  intro m
  induction m with
  | zero =>
    intro f A x6 x7 x8 u9 hI hG hF gx7 gx8 hm
    exfalso
    have l0 := zi_lo x8
    have u0 := zi_hi x8
    omega
  | succ m ih =>
    intro f A x6 x7 x8 u9 hI hG hF gx7 gx8 hm
    refine pe_iload (j := 8) (by decide +kernel) rfl ?_
    refine pe_bipushv (n := 9) (v := 9) (by decide +kernel) (by decide +kernel) ?_
    refine pe_aload_n (j := 0) (by decide +kernel) rfl ?_
    refine pe_get (j := 7) (ci := 12) (n := 0) (by decide +kernel) (by decide +kernel) (md_o hc) rfl ?_
    refine pe_iload (j := 5) (by decide +kernel) rfl ?_
    refine pz_iald (by decide +kernel) (md_a148 hc) (mlen_148 hI) rfl (by omega) (by omega) (fun v1 ev1 => ?_)
    have rv1 : 0 ≤ v1.toInt ∧ v1.toInt ≤ 9 := MT_people (mt_148 hI ev1 (by omega)) (by omega)
    rw [show A 148 = A0 148 from (hF 148 (by decide) (by decide) (by decide) (by decide) (by decide))] at ev1
    refine pz_mul (by decide +kernel) kz_9 rfl (by omega) (by omega) (fun z2 hz2 => ?_)
    refine pz_icmp_ge (off := 71) (t := 124) (by decide +kernel) (by decide) rfl rfl hz2 (fun h3 => ?_) (fun h3 => ?_)
    · skip
      clear hz2
      exact k_124_0 f A x6 x7 x8 (u9) hI (fun k n31 n32 => (hG k n31 n32)) (fun k n160 n161 n162 n163 n164 => (hF k n160 n161 n162 n163 n164)) (by omega) (by omega)
    · skip
      clear hz2
      refine pe_iload (j := 8) (by decide +kernel) rfl ?_
      refine pe_bipushv (n := 10) (v := 10) (by decide +kernel) (by decide +kernel) ?_
      refine pz_rem (by decide +kernel) rfl kz_10 (by omega) (by omega) (fun z4 hz4 gz4 kz4 => ?_)
      refine pz_if_eq (off := 57) (t := 118) (by decide +kernel) (by decide) rfl rfl (fun h5 => ?_) (fun h5 => ?_)
      · skip
        refine pz_iinc (j := 8) (n := 1) (by decide +kernel) rfl rfl (by decide +kernel) (by omega) (by omega) (fun z6 hz6 => ?_)
        show pmE pg X pg_tyl pg_cl (d + 7) 309 121 [.ref 147, .int x1, .int x2, .int x3, .int x4, .int x5, .int x6, .int x7, .int z6, u9] [] (md wc f A) _
        refine pe_goto (off := (-80)) (t := 41) (by decide +kernel) (by decide) rfl ?_
        exact ih f A x6 x7 z6 (u9) hI (fun k n31 n32 => (hG k n31 n32)) (fun k n160 n161 n162 n163 n164 => (hF k n160 n161 n162 n163 n164)) (by omega) (by omega) (by omega)
      · skip
        refine pe_iload (j := 8) (by decide +kernel) rfl ?_
        refine pe_bipushv (n := 9) (v := 9) (by decide +kernel) (by decide +kernel) ?_
        refine pz_rem (by decide +kernel) rfl kz_9 (by omega) (by omega) (fun z7 hz7 gz7 kz7 => ?_)
        refine pe_aload_n (j := 0) (by decide +kernel) rfl ?_
        refine pe_get (j := 7) (ci := 12) (n := 0) (by decide +kernel) (by decide +kernel) (md_o hc) rfl ?_
        refine pe_iload (j := 5) (by decide +kernel) rfl ?_
        refine pz_iald (by decide +kernel) (md_a148 hc) (mlen_148 hI) rfl (by omega) (by omega) (fun v8 ev8 => ?_)
        rw [show A 148 = A0 148 from (hF 148 (by decide) (by decide) (by decide) (by decide) (by decide))] at ev8
        rw [ev8.trans ev1.symm]
        clear ev8 v8
        refine pz_icmp_lt (off := 6) (t := 82) (by decide +kernel) (by decide) rfl rfl rfl (fun h9 => ?_) (fun h9 => ?_)
        · skip
          refine pe_aload_n (j := 0) (by decide +kernel) rfl ?_
          refine pe_iload (j := 5) (by decide +kernel) rfl ?_
          refine pe_iload (j := 8) (by decide +kernel) rfl ?_
          refine pe_bipushv (n := 9) (v := 9) (by decide +kernel) (by decide +kernel) ?_
          refine pz_div (by decide +kernel) rfl kz_9 (by omega) (by omega) (fun z10 hz10 => ?_)
          refine pe_iload (j := 8) (by decide +kernel) rfl ?_
          refine pe_bipushv (n := 9) (v := 9) (by decide +kernel) (by decide +kernel) ?_
          refine pz_rem (by decide +kernel) rfl kz_9 (by omega) (by omega) (fun z11 hz11 gz11 kz11 => ?_)
          refine pz_callV (j := 377) (mj := 308) (by decide +kernel) (cll_V (args := [.int z11, .int z10, .int x5]) (n := 3) (by decide +kernel) rfl rfl (md_o hc) (by decide +kernel) (Nat.le_of_ble_eq_true rfl) (Nat.le_of_ble_eq_true rfl)) (NM_308 hc hI (by omega)) (fun q12a q12b q12c q12d hqq12 => ?_)
          obtain ⟨f13, A14, rq12, eq12, hIq12, hGq12, hFq12, kq12⟩ := hqq12
          cases eq12
          refine ⟨rfl, rfl, ?_⟩
          show pmE pg X pg_tyl pg_cl (d + 7) 309 98 [.ref 147, .int x1, .int x2, .int x3, .int x4, .int x5, .int x6, .int x7, .int x8, u9] [.int rq12] (md wc f13 A14) _
          refine pe_istore (j := 9) (ls' := [.ref 147, .int x1, .int x2, .int x3, .int x4, .int x5, .int x6, .int x7, .int x8, .int rq12]) (by decide +kernel) (Nat.le_of_ble_eq_true rfl) rfl ?_
          refine pe_iload (j := 9) (by decide +kernel) rfl ?_
          refine pe_iload (j := 6) (by decide +kernel) rfl ?_
          have lw16 := zi_lo rq12
          have uw16 := zi_hi rq12
          have lw17 := zi_lo x6
          have uw17 := zi_hi x6
          refine pz_icmp_gt (off := 6) (t := 110) (by decide +kernel) (by decide) rfl rfl rfl (fun h15 => ?_) (fun h15 => ?_)
          · skip
            refine pe_iload (j := 9) (by decide +kernel) rfl ?_
            refine pe_istore (j := 6) (ls' := [.ref 147, .int x1, .int x2, .int x3, .int x4, .int x5, .int rq12, .int x7, .int x8, .int rq12]) (by decide +kernel) (Nat.le_of_ble_eq_true rfl) rfl ?_
            refine pe_iload (j := 8) (by decide +kernel) rfl ?_
            refine pe_istore (j := 7) (ls' := [.ref 147, .int x1, .int x2, .int x3, .int x4, .int x5, .int rq12, .int x8, .int x8, .int rq12]) (by decide +kernel) (Nat.le_of_ble_eq_true rfl) rfl ?_
            refine pz_iinc (j := 8) (n := 1) (by decide +kernel) rfl rfl (by decide +kernel) (by omega) (by omega) (fun z18 hz18 => ?_)
            show pmE pg X pg_tyl pg_cl (d + 7) 309 121 [.ref 147, .int x1, .int x2, .int x3, .int x4, .int x5, .int rq12, .int x8, .int z18, .int rq12] [] (md wc f13 A14) _
            refine pe_goto (off := (-80)) (t := 41) (by decide +kernel) (by decide) rfl ?_
            exact ih f13 A14 rq12 x8 z18 (.int rq12) hIq12 (fun k n31 n32 => ((hGq12 k n31 n32)).trans ((hG k n31 n32))) (fun k n160 n161 n162 n163 n164 => ((hFq12 k n160 n161 n162 n163 n164)).trans ((hF k n160 n161 n162 n163 n164))) (by omega) (by omega) (by omega)
          · skip
            refine pe_goto (off := 11) (t := 118) (by decide +kernel) (by decide) rfl ?_
            refine pz_iinc (j := 8) (n := 1) (by decide +kernel) rfl rfl (by decide +kernel) (by omega) (by omega) (fun z19 hz19 => ?_)
            show pmE pg X pg_tyl pg_cl (d + 7) 309 121 [.ref 147, .int x1, .int x2, .int x3, .int x4, .int x5, .int x6, .int x7, .int z19, .int rq12] [] (md wc f13 A14) _
            refine pe_goto (off := (-80)) (t := 41) (by decide +kernel) (by decide) rfl ?_
            exact ih f13 A14 x6 x7 z19 (.int rq12) hIq12 (fun k n31 n32 => ((hGq12 k n31 n32)).trans ((hG k n31 n32))) (fun k n160 n161 n162 n163 n164 => ((hFq12 k n160 n161 n162 n163 n164)).trans ((hF k n160 n161 n162 n163 n164))) (by omega) (by omega) (by omega)
        · skip
          refine pe_goto (off := 39) (t := 118) (by decide +kernel) (by decide) rfl ?_
          refine pz_iinc (j := 8) (n := 1) (by decide +kernel) rfl rfl (by decide +kernel) (by omega) (by omega) (fun z20 hz20 => ?_)
          show pmE pg X pg_tyl pg_cl (d + 7) 309 121 [.ref 147, .int x1, .int x2, .int x3, .int x4, .int x5, .int x6, .int x7, .int z20, u9] [] (md wc f A) _
          refine pe_goto (off := (-80)) (t := 41) (by decide +kernel) (by decide) rfl ?_
          exact ih f A x6 x7 z20 (u9) hI (fun k n31 n32 => (hG k n31 n32)) (fun k n160 n161 n162 n163 n164 => (hF k n160 n161 n162 n163 n164)) (by omega) (by omega) (by omega)
set_option maxRecDepth 100000 in
set_option maxHeartbeats 8000000 in
theorem NM_309 {X : pm_X} {d : Nat} {wc : pm_W} {f : Nat → Int32} {A : Nat → List Int32} {x1 x2 x3 x4 : Int32} (hc : wc.length = 147) (hI : MI f A) : pmE pg X pg_tyl pg_cl (d + 7) 309 0 (pm_ent (pm_max pg 309) [.ref 147, .int x1, .int x2, .int x3, .int x4]) [] (md wc f A) (fun q => ∃ (f' : Nat → Int32) (A' : Nat → List Int32) (r : Int32), q = (some (.int r), md wc f' A', 0, 0) ∧ MI f' A' ∧ (∀ k : Nat, k ≠ 14 → k ≠ 15 → k ≠ 16 → k ≠ 31 → k ≠ 32 → f' k = f k) ∧ (∀ k : Nat, k ≠ 152 → k ≠ 153 → k ≠ 160 → k ≠ 161 → k ≠ 162 → k ≠ 163 → k ≠ 164 → A' k = A k) ∧ ((((-1) ≤ r.toInt ∧ r.toInt ≤ 238609294) ∧ True))) := by
  show pmE pg X pg_tyl pg_cl (d + 7) 309 0 [.ref 147, .int x1, .int x2, .int x3, .int x4, pm_dead, pm_dead, pm_dead, pm_dead, pm_dead] [] (md wc f A) _
  refine pe_aload_n (j := 0) (by decide +kernel) rfl ?_
  refine pe_iload_n (j := 1) (by decide +kernel) rfl ?_
  refine pe_iload_n (j := 2) (by decide +kernel) rfl ?_
  refine pe_iload_n (j := 3) (by decide +kernel) rfl ?_
  refine pz_callV (j := 232) (mj := 246) (by decide +kernel) (cll_V (args := [.int x3, .int x2, .int x1]) (n := 3) (by decide +kernel) rfl rfl (md_o hc) (by decide +kernel) (Nat.le_of_ble_eq_true rfl) (Nat.le_of_ble_eq_true rfl)) (MM_246 hc hI) (fun q1a q1b q1c q1d hqq1 => ?_)
  obtain ⟨f2, A3, rq1, eq1, hIq1, hGq1, hFq1, kq1⟩ := hqq1
  cases eq1
  refine ⟨rfl, rfl, ?_⟩
  rcases kq1 with kq1 | kq1
  · skip
    obtain ⟨erq1, kq1⟩ := kq1
    subst erq1
    show pmE pg X pg_tyl pg_cl (d + 7) 309 7 [.ref 147, .int x1, .int x2, .int x3, .int x4, pm_dead, pm_dead, pm_dead, pm_dead, pm_dead] [.int 0] (md wc f2 A3) _
    refine pz_if_ne (off := 5) (t := 12) (by decide +kernel) (by decide) rfl kz_0 (fun h4 => by omega) (fun h4 => ?_)
    refine pe_iconstv (n := (-1)) (v := (-1)) (by decide +kernel) (by decide +kernel) ?_
    exact pe_iret (by decide +kernel) rfl rfl ⟨f2, A3, (-1), rfl, hIq1, (fun k n14 n15 n16 n31 n32 => (hGq1 k n14 n15 n16)), (fun k n152 n153 n160 n161 n162 n163 n164 => (hFq1 k n152 n153)), ⟨(by decide +kernel), trivial⟩⟩
  · skip
    obtain ⟨erq1, kq1⟩ := kq1
    subst erq1
    show pmE pg X pg_tyl pg_cl (d + 7) 309 7 [.ref 147, .int x1, .int x2, .int x3, .int x4, pm_dead, pm_dead, pm_dead, pm_dead, pm_dead] [.int 1] (md wc f2 A3) _
    refine pz_if_ne (off := 5) (t := 12) (by decide +kernel) (by decide) rfl kz_1 (fun h5 => ?_) (fun h5 => by omega)
    refine pe_iconstv (n := 0) (v := 0) (by decide +kernel) (by decide +kernel) ?_
    refine pe_iload_n (j := 1) (by decide +kernel) rfl ?_
    refine pi_S (j := 163) (mj := 217) (by decide +kernel) (by decide +kernel) rfl ?_
    show pmE pg X pg_tyl pg_cl (d + 6) 217 0 [.int 0, .int x1] [] (md wc f2 A3) _
    refine pe_iload_n (j := 0) (by decide +kernel) rfl ?_
    refine pz_if_ne (off := 15) (t := 16) (by decide +kernel) (by decide) rfl kz_0 (fun h6 => by omega) (fun h6 => ?_)
    refine pe_sipushv (n := 610) (v := 610) (by decide +kernel) (by decide +kernel) ?_
    refine pe_sipushv (n := 132) (v := 132) (by decide +kernel) (by decide +kernel) ?_
    refine pe_iload_n (j := 1) (by decide +kernel) rfl ?_
    refine pz_mul (by decide +kernel) kz_132 rfl (by omega) (by omega) (fun z7 hz7 => ?_)
    refine pz_add (by decide +kernel) kz_610 hz7 (by omega) (by omega) (fun z8 hz8 => ?_)
    clear hz7
    refine pe_goto (off := 12) (t := 25) (by decide +kernel) (by decide) rfl ?_
    refine pe_iret (by decide +kernel) rfl rfl ⟨rfl, rfl, ?_⟩
    show pmE pg X pg_tyl pg_cl (d + 7) 309 17 [.ref 147, .int x1, .int x2, .int x3, .int x4, pm_dead, pm_dead, pm_dead, pm_dead, pm_dead] [.int z8] (md wc f2 A3) _
    refine pe_istore (j := 5) (ls' := [.ref 147, .int x1, .int x2, .int x3, .int x4, .int z8, pm_dead, pm_dead, pm_dead, pm_dead]) (by decide +kernel) (Nat.le_of_ble_eq_true rfl) rfl ?_
    refine pe_aload_n (j := 0) (by decide +kernel) rfl ?_
    refine pe_iload (j := 5) (by decide +kernel) rfl ?_
    refine pe_aload_n (j := 0) (by decide +kernel) rfl ?_
    refine pe_iload (j := 5) (by decide +kernel) rfl ?_
    refine pe_iconstv (n := 0) (v := 0) (by decide +kernel) (by decide +kernel) ?_
    refine pe_iconstv (n := (-1)) (v := (-1)) (by decide +kernel) (by decide +kernel) ?_
    refine pz_callV (j := 346) (mj := 287) (by decide +kernel) (cll_V (args := [.int (-1), .int 0, .int z8]) (n := 3) (by decide +kernel) rfl rfl (md_o hc) (by decide +kernel) (Nat.le_of_ble_eq_true rfl) (Nat.le_of_ble_eq_true rfl)) (NM_287 hc hIq1 (by omega)) (fun q9a q9b q9c q9d hqq9 => ?_)
    obtain ⟨A10, rq9, eq9, hIq9, hFq9, kq9⟩ := hqq9
    cases eq9
    refine ⟨rfl, rfl, ?_⟩
    show pmE pg X pg_tyl pg_cl (d + 7) 309 30 [.ref 147, .int x1, .int x2, .int x3, .int x4, .int z8, pm_dead, pm_dead, pm_dead, pm_dead] [.int rq9, .int z8, .ref 147] (md wc f2 A10) _
    refine pz_callV (j := 340) (mj := 288) (by decide +kernel) (cll_V (args := [.int rq9, .int z8]) (n := 2) (by decide +kernel) rfl rfl (md_o hc) (by decide +kernel) (Nat.le_of_ble_eq_true rfl) (Nat.le_of_ble_eq_true rfl)) (MM_288 hc hIq9 (by omega)) (fun q11a q11b q11c q11d hqq11 => ?_)
    obtain ⟨rq11, eq11, kq11⟩ := hqq11
    cases eq11
    refine ⟨rfl, rfl, ?_⟩
    show pmE pg X pg_tyl pg_cl (d + 7) 309 33 [.ref 147, .int x1, .int x2, .int x3, .int x4, .int z8, pm_dead, pm_dead, pm_dead, pm_dead] [.int rq11] (md wc f2 A10) _
    refine pe_istore (j := 6) (ls' := [.ref 147, .int x1, .int x2, .int x3, .int x4, .int z8, .int rq11, pm_dead, pm_dead, pm_dead]) (by decide +kernel) (Nat.le_of_ble_eq_true rfl) rfl ?_
    refine pe_iconstv (n := (-1)) (v := (-1)) (by decide +kernel) (by decide +kernel) ?_
    refine pe_istore (j := 7) (ls' := [.ref 147, .int x1, .int x2, .int x3, .int x4, .int z8, .int rq11, .int (-1), pm_dead, pm_dead]) (by decide +kernel) (Nat.le_of_ble_eq_true rfl) rfl ?_
    refine pe_iconstv (n := 0) (v := 0) (by decide +kernel) (by decide +kernel) ?_
    refine pe_istore (j := 8) (ls' := [.ref 147, .int x1, .int x2, .int x3, .int x4, .int z8, .int rq11, .int (-1), .int 0, pm_dead]) (by decide +kernel) (Nat.le_of_ble_eq_true rfl) rfl ?_
    refine NL_309_41 hc (by omega) (by omega) (by omega) (by omega) (fun f12 A13 y14 y15 y16 u17 hIy18 hGf12 hFA13 gy15 gy16 => ?_) 82 f2 A10 rq11 (-1) 0 (pm_dead) hIq9 (fun k _ _ => rfl) (fun k _ _ _ _ _ => rfl) (by decide +kernel) (by decide +kernel) (by decide +kernel)
    refine pe_iload (j := 7) (by decide +kernel) rfl ?_
    have lw20 := zi_lo y15
    have uw20 := zi_hi y15
    refine pz_if_ge (off := 7) (t := 133) (by decide +kernel) (by decide) rfl rfl (fun h19 => ?_) (fun h19 => ?_)
    · skip
      refine pe_iload (j := 4) (by decide +kernel) rfl ?_
      have lw22 := zi_lo x4
      have uw22 := zi_hi x4
      refine pz_if_eq (off := 11) (t := 146) (by decide +kernel) (by decide) rfl rfl (fun h21 => ?_) (fun h21 => ?_)
      · skip
        refine pe_iload (j := 7) (by decide +kernel) rfl ?_
        refine pe_bipushv (n := 9) (v := 9) (by decide +kernel) (by decide +kernel) ?_
        refine pz_div (by decide +kernel) rfl kz_9 (by omega) (by omega) (fun z23 hz23 => ?_)
        exact pe_iret (by decide +kernel) rfl rfl ⟨f12, A13, z23, rfl, hIy18, (fun k n14 n15 n16 n31 n32 => ((hGf12 k n31 n32)).trans ((hGq1 k n14 n15 n16))), (fun k n152 n153 n160 n161 n162 n163 n164 => ((hFA13 k n160 n161 n162 n163 n164)).trans (((hFq9 k n160 n161 n162 n163 n164)).trans ((hFq1 k n152 n153)))), ⟨(by omega), trivial⟩⟩
      · skip
        refine pe_iload (j := 7) (by decide +kernel) rfl ?_
        refine pe_bipushv (n := 9) (v := 9) (by decide +kernel) (by decide +kernel) ?_
        refine pz_rem (by decide +kernel) rfl kz_9 (by omega) (by omega) (fun z24 hz24 gz24 kz24 => ?_)
        refine pe_goto (off := 8) (t := 151) (by decide +kernel) (by decide) rfl ?_
        exact pe_iret (by decide +kernel) rfl rfl ⟨f12, A13, z24, rfl, hIy18, (fun k n14 n15 n16 n31 n32 => ((hGf12 k n31 n32)).trans ((hGq1 k n14 n15 n16))), (fun k n152 n153 n160 n161 n162 n163 n164 => ((hFA13 k n160 n161 n162 n163 n164)).trans (((hFq9 k n160 n161 n162 n163 n164)).trans ((hFq1 k n152 n153)))), ⟨(by omega), trivial⟩⟩
    · skip
      refine pe_iconstv (n := (-1)) (v := (-1)) (by decide +kernel) (by decide +kernel) ?_
      refine pe_goto (off := 21) (t := 151) (by decide +kernel) (by decide) rfl ?_
      exact pe_iret (by decide +kernel) rfl rfl ⟨f12, A13, (-1), rfl, hIy18, (fun k n14 n15 n16 n31 n32 => ((hGf12 k n31 n32)).trans ((hGq1 k n14 n15 n16))), (fun k n152 n153 n160 n161 n162 n163 n164 => ((hFA13 k n160 n161 n162 n163 n164)).trans (((hFq9 k n160 n161 n162 n163 n164)).trans ((hFq1 k n152 n153)))), ⟨(by decide +kernel), trivial⟩⟩
set_option maxRecDepth 100000 in
set_option maxHeartbeats 8000000 in
theorem NL_312_21 {X : pm_X} {d : Nat} {wc : pm_W} {Q : pm_R → Prop} {f : Nat → Int32} {A0 : Nat → List Int32} {x1 x2 x3 x4 : Int32} (hc : wc.length = 147) (gx1 : (610 ≤ x1.toInt ∧ x1.toInt ≤ 742 ∧ (x1.toInt - 610) % 132 = 0)) (gx2 : (0 ≤ x2.toInt ∧ x2.toInt ≤ 9)) (gx3 : (0 ≤ x3.toInt ∧ x3.toInt ≤ 9)) (gx4 : (0 ≤ x4.toInt ∧ x4.toInt ≤ 8)) (k_60_0 : ∀ (A' : Nat → List Int32) (y5 : Int32), MI f A' → (∀ k : Nat, k ≠ 161 → A' k = A0 k) → (0 ≤ y5.toInt ∧ y5.toInt ≤ 9) → pmE pg X pg_tyl pg_cl (d + 3) 312 60 [.ref 147, .int x1, .int x2, .int x3, .int x4, .int y5] [] (md wc f A') Q) : ∀ (m : Nat) (A : Nat → List Int32) (x5 : Int32), MI f A → (∀ k : Nat, k ≠ 161 → A k = A0 k) → (0 ≤ x5.toInt ∧ x5.toInt ≤ 9) → 9 - x5.toInt < (m : Int) → pmE pg X pg_tyl pg_cl (d + 3) 312 21 [.ref 147, .int x1, .int x2, .int x3, .int x4, .int x5] [] (md wc f A) Q := by
  intro m
  induction m with
  | zero =>
    intro A x5 hI hF gx5 hm
    exfalso
    have l0 := zi_lo x5
    have u0 := zi_hi x5
    omega
  | succ m ih =>
    intro A x5 hI hF gx5 hm
    refine pe_iload (j := 5) (by decide +kernel) rfl ?_
    refine pe_aload_n (j := 0) (by decide +kernel) rfl ?_
    refine pe_get (j := 7) (ci := 12) (n := 0) (by decide +kernel) (by decide +kernel) (md_o hc) rfl ?_
    refine pe_iload_n (j := 1) (by decide +kernel) rfl ?_
    refine pz_iald (by decide +kernel) (md_a148 hc) (mlen_148 hI) rfl (by omega) (by omega) (fun v1 ev1 => ?_)
    have rv1 : 0 ≤ v1.toInt ∧ v1.toInt ≤ 9 := MT_people (mt_148 hI ev1 (by omega)) (by omega)
    rw [show A 148 = A0 148 from (hF 148 (by decide))] at ev1
    refine pz_icmp_ge (off := 31) (t := 60) (by decide +kernel) (by decide) rfl rfl rfl (fun h2 => ?_) (fun h2 => ?_)
    · skip
      exact k_60_0 A x5 hI (fun k n161 => (hF k n161)) (by omega)
    · skip
      refine pe_aload_n (j := 0) (by decide +kernel) rfl ?_
      refine pe_get (j := 50) (ci := 12) (n := 26) (by decide +kernel) (by decide +kernel) (md_o hc) rfl ?_
      refine pe_bipushv (n := 10) (v := 10) (by decide +kernel) (by decide +kernel) ?_
      refine pe_iload (j := 4) (by decide +kernel) rfl ?_
      refine pz_mul (by decide +kernel) kz_10 rfl (by omega) (by omega) (fun z3 hz3 => ?_)
      refine pe_iload (j := 5) (by decide +kernel) rfl ?_
      refine pz_add (by decide +kernel) hz3 rfl (by omega) (by omega) (fun z4 hz4 => ?_)
      clear hz3
      refine pe_aload_n (j := 0) (by decide +kernel) rfl ?_
      refine pe_iload_n (j := 1) (by decide +kernel) rfl ?_
      refine pe_iload (j := 4) (by decide +kernel) rfl ?_
      refine pe_iload (j := 5) (by decide +kernel) rfl ?_
      refine pz_callV (j := 199) (mj := 231) (by decide +kernel) (cll_V (args := [.int x5, .int x4, .int x1]) (n := 3) (by decide +kernel) rfl rfl (md_o hc) (by decide +kernel) (Nat.le_of_ble_eq_true rfl) (Nat.le_of_ble_eq_true rfl)) (MM_231 hc hI (by omega) (by omega) (by omega)) (fun q5a q5b q5c q5d hqq5 => ?_)
      obtain ⟨rq5, eq5, kq5⟩ := hqq5
      cases eq5
      refine ⟨rfl, rfl, ?_⟩
      show pmE pg X pg_tyl pg_cl (d + 3) 312 53 [.ref 147, .int x1, .int x2, .int x3, .int x4, .int x5] [.int rq5, .int z4, .ref 161] (md wc f A) _
      refine mz_st161 (by decide +kernel) hc hI hz4 (by omega) (by omega) (fun A6 eA6 hIA6 => ?_)
      refine pz_iinc (j := 5) (n := 1) (by decide +kernel) rfl rfl (by decide +kernel) (by omega) (by omega) (fun z7 hz7 => ?_)
      show pmE pg X pg_tyl pg_cl (d + 3) 312 57 [.ref 147, .int x1, .int x2, .int x3, .int x4, .int z7] [] (md wc f A6) _
      refine pe_goto (off := (-36)) (t := 21) (by decide +kernel) (by decide) rfl ?_
      exact ih A6 z7 hIA6 (fun k n161 => (upa_fr eA6 n161).trans ((hF k n161))) (by omega) (by omega)
set_option maxRecDepth 100000 in
set_option maxHeartbeats 8000000 in
theorem NL_312_7 {X : pm_X} {d : Nat} {wc : pm_W} {Q : pm_R → Prop} {f : Nat → Int32} {A0 : Nat → List Int32} {x1 x2 x3 : Int32} (hc : wc.length = 147) (gx1 : (610 ≤ x1.toInt ∧ x1.toInt ≤ 742 ∧ (x1.toInt - 610) % 132 = 0)) (gx2 : (0 ≤ x2.toInt ∧ x2.toInt ≤ 9)) (gx3 : (0 ≤ x3.toInt ∧ x3.toInt ≤ 9)) (k_66_0 : ∀ (A' : Nat → List Int32) (y4 : Int32) (v5 : Value), MI f A' → (∀ k : Nat, k ≠ 161 → A' k = A0 k) → (0 ≤ y4.toInt ∧ y4.toInt ≤ 9) → pmE pg X pg_tyl pg_cl (d + 3) 312 66 [.ref 147, .int x1, .int x2, .int x3, .int y4, v5] [] (md wc f A') Q) : ∀ (m : Nat) (A : Nat → List Int32) (x4 : Int32) (u5 : Value), MI f A → (∀ k : Nat, k ≠ 161 → A k = A0 k) → (0 ≤ x4.toInt ∧ x4.toInt ≤ 9) → 9 - x4.toInt < (m : Int) → pmE pg X pg_tyl pg_cl (d + 3) 312 7 [.ref 147, .int x1, .int x2, .int x3, .int x4, u5] [] (md wc f A) Q := by
  intro m
  induction m with
  | zero =>
    intro A x4 u5 hI hF gx4 hm
    exfalso
    have l0 := zi_lo x4
    have u0 := zi_hi x4
    omega
  | succ m ih =>
    intro A x4 u5 hI hF gx4 hm
    refine pe_iload (j := 4) (by decide +kernel) rfl ?_
    refine pe_aload_n (j := 0) (by decide +kernel) rfl ?_
    refine pe_get (j := 7) (ci := 12) (n := 0) (by decide +kernel) (by decide +kernel) (md_o hc) rfl ?_
    refine pe_iload_n (j := 1) (by decide +kernel) rfl ?_
    refine pz_iald (by decide +kernel) (md_a148 hc) (mlen_148 hI) rfl (by omega) (by omega) (fun v1 ev1 => ?_)
    have rv1 : 0 ≤ v1.toInt ∧ v1.toInt ≤ 9 := MT_people (mt_148 hI ev1 (by omega)) (by omega)
    rw [show A 148 = A0 148 from (hF 148 (by decide))] at ev1
    refine pz_icmp_ge (off := 51) (t := 66) (by decide +kernel) (by decide) rfl rfl rfl (fun h2 => ?_) (fun h2 => ?_)
    · skip
      exact k_66_0 A x4 (u5) hI (fun k n161 => (hF k n161)) (by omega)
    · skip
      refine pe_iconstv (n := 0) (v := 0) (by decide +kernel) (by decide +kernel) ?_
      refine pe_istore (j := 5) (ls' := [.ref 147, .int x1, .int x2, .int x3, .int x4, .int 0]) (by decide +kernel) (Nat.le_of_ble_eq_true rfl) rfl ?_
      refine NL_312_21 hc (by omega) (by omega) (by omega) (by omega) (fun A3 y4 hIy5 hFA3 gy4 => ?_) 10 A 0 hI (fun k _ => rfl) (by decide +kernel) (by decide +kernel)
      refine pz_iinc (j := 4) (n := 1) (by decide +kernel) rfl rfl (by decide +kernel) (by omega) (by omega) (fun z6 hz6 => ?_)
      show pmE pg X pg_tyl pg_cl (d + 3) 312 63 [.ref 147, .int x1, .int x2, .int x3, .int z6, .int y4] [] (md wc f A3) _
      refine pe_goto (off := (-56)) (t := 7) (by decide +kernel) (by decide) rfl ?_
      exact ih A3 z6 (.int y4) hIy5 (fun k n161 => ((hFA3 k n161)).trans ((hF k n161))) (by omega) (by omega)
set_option maxRecDepth 100000 in
set_option maxHeartbeats 8000000 in
theorem NM_312 {X : pm_X} {d : Nat} {wc : pm_W} {f : Nat → Int32} {A : Nat → List Int32} {x1 x2 x3 : Int32} (hc : wc.length = 147) (hI : MI f A) (gx1 : (610 ≤ x1.toInt ∧ x1.toInt ≤ 742 ∧ (x1.toInt - 610) % 132 = 0)) (gx2 : (0 ≤ x2.toInt ∧ x2.toInt ≤ 9)) (gx3 : (0 ≤ x3.toInt ∧ x3.toInt ≤ 9)) : pmE pg X pg_tyl pg_cl (d + 3) 312 0 (pm_ent (pm_max pg 312) [.ref 147, .int x1, .int x2, .int x3]) [] (md wc f A) (fun q => ∃ (A' : Nat → List Int32) (r : Int32), q = (some (.int r), md wc f A', 0, 0) ∧ MI f A' ∧ (∀ k : Nat, k ≠ 160 → k ≠ 161 → k ≠ 162 → k ≠ 163 → k ≠ 164 → A' k = A k) ∧ (((0 ≤ r.toInt ∧ r.toInt ≤ 2000000) ∧ True))) := by
  show pmE pg X pg_tyl pg_cl (d + 3) 312 0 [.ref 147, .int x1, .int x2, .int x3, pm_dead, pm_dead] [] (md wc f A) _
  refine pe_aload_n (j := 0) (by decide +kernel) rfl ?_
  refine pz_callV (j := 324) (mj := 277) (by decide +kernel) (cll_V (args := []) (n := 0) (by decide +kernel) rfl rfl (md_o hc) (by decide +kernel) (Nat.le_of_ble_eq_true rfl) (Nat.le_of_ble_eq_true rfl)) (NM_277 hc hI) (fun q1a q1b q1c q1d hqq1 => ?_)
  obtain ⟨A2, eq1, hIq1, hFq1, kq1⟩ := hqq1
  cases eq1
  refine ⟨rfl, rfl, ?_⟩
  obtain ⟨hq3, hq4, hq5, hq6, kq1⟩ := kq1
  show pmE pg X pg_tyl pg_cl (d + 3) 312 4 [.ref 147, .int x1, .int x2, .int x3, pm_dead, pm_dead] [] (md wc f A2) _
  refine pe_iconstv (n := 0) (v := 0) (by decide +kernel) (by decide +kernel) ?_
  refine pe_istore (j := 4) (ls' := [.ref 147, .int x1, .int x2, .int x3, .int 0, pm_dead]) (by decide +kernel) (Nat.le_of_ble_eq_true rfl) rfl ?_
  refine NL_312_7 hc (by omega) (by omega) (by omega) (fun A7 y8 u9 hIy10 hFA7 gy8 => ?_) 10 A2 0 (pm_dead) hIq1 (fun k _ => rfl) (by decide +kernel) (by decide +kernel)
  refine pe_aload_n (j := 0) (by decide +kernel) rfl ?_
  refine pe_get (j := 56) (ci := 12) (n := 28) (by decide +kernel) (by decide +kernel) (md_o hc) rfl ?_
  refine pe_iload_n (j := 2) (by decide +kernel) rfl ?_
  refine pe_ldc (j := 243) (v := 1000000) (by decide +kernel) (by decide +kernel) ?_
  refine mz_st163 (by decide +kernel) hc hIy10 rfl (by omega) (by omega) (fun A11 eA11 hIA11 => ?_)
  have hq12 : (∀ j : Int, (0) ≤ j → j < (10) → (-1000000) ≤ ((A11 163).getD j.toNat 0).toInt ∧ ((A11 163).getD j.toNat 0).toInt ≤ 1000000) := by
    intro j h1 h2
    first
    | (exfalso; omega)
    | (by_cases e : (x2.toInt).toNat = j.toNat
       · rw [upa_at eA11, ← e, gz_eq (by rw [(mlen_163 hIy10)]; omega), kz_1000000]; omega
       · rw [upa_at eA11, gz_ne e, show A7 163 = A2 163 from (hFA7 163 (by decide))]; have hh := hq6 j (by omega) (by omega); omega)
  refine pe_aload_n (j := 0) (by decide +kernel) rfl ?_
  refine pe_get (j := 56) (ci := 12) (n := 28) (by decide +kernel) (by decide +kernel) (md_o hc) rfl ?_
  refine pe_iload_n (j := 3) (by decide +kernel) rfl ?_
  refine pe_ldc_w (j := 380) (v := (-1000000)) (by decide +kernel) (by decide +kernel) ?_
  refine mz_st163 (by decide +kernel) hc hIA11 rfl (by omega) (by omega) (fun A13 eA13 hIA13 => ?_)
  refine pe_aload_n (j := 0) (by decide +kernel) rfl ?_
  have hq14 : (∀ j : Int, (0) ≤ j → j < (10) → (-1000000) ≤ ((A13 163).getD j.toNat 0).toInt ∧ ((A13 163).getD j.toNat 0).toInt ≤ 1000000) := by
    intro j h1 h2
    first
    | (exfalso; omega)
    | (by_cases e : (x3.toInt).toNat = j.toNat
       · rw [upa_at eA13, ← e, gz_eq (by rw [(mlen_163 hIA11)]; omega), kz_m1000000]; omega
       · rw [upa_at eA13, gz_ne e]; have hh := hq12 j (by omega) (by omega); omega)
  refine pz_callV (j := 327) (mj := 278) (by decide +kernel) (cll_V (args := []) (n := 0) (by decide +kernel) rfl rfl (md_o hc) (by decide +kernel) (Nat.le_of_ble_eq_true rfl) (Nat.le_of_ble_eq_true rfl)) (NM_278 hc hIA13 hq14) (fun q15a q15b q15c q15d hqq15 => ?_)
  obtain ⟨A16, rq15, eq15, hIq15, hFq15, kq15⟩ := hqq15
  cases eq15
  refine ⟨rfl, rfl, ?_⟩
  obtain ⟨kfq15, kq15⟩ := kq15
  obtain ⟨hq17, kq15⟩ := kq15
  show pmE pg X pg_tyl pg_cl (d + 3) 312 87 [.ref 147, .int x1, .int x2, .int x3, .int y8, u9] [.int rq15] (md wc f A16) _
  refine pz_if_eq (off := 8) (t := 95) (by decide +kernel) (by decide) rfl rfl (fun h18 => ?_) (fun h18 => ?_)
  · skip
    refine pe_ldc (j := 243) (v := 1000000) (by decide +kernel) (by decide +kernel) ?_
    refine pe_aload_n (j := 0) (by decide +kernel) rfl ?_
    refine pe_get (j := 56) (ci := 12) (n := 28) (by decide +kernel) (by decide +kernel) (md_o hc) rfl ?_
    refine pe_iload_n (j := 2) (by decide +kernel) rfl ?_
    refine pz_iald (by decide +kernel) (md_a163 hc) (mlen_163 hIq15) rfl (by omega) (by omega) (fun v19 ev19 => ?_)
    have rq20 := hq17 x2.toInt (by omega) (by omega)
    rw [← ev19] at rq20
    refine pz_sub (by decide +kernel) kz_1000000 rfl (by omega) (by omega) (fun z21 hz21 => ?_)
    exact pe_iret (by decide +kernel) rfl rfl ⟨A16, z21, rfl, hIq15, (fun k n160 n161 n162 n163 n164 => ((hFq15 k n162 n163 n164)).trans ((upa_fr eA13 n163).trans ((upa_fr eA11 n163).trans (((hFA7 k n161)).trans ((hFq1 k n160 n161 n162 n163)))))), ⟨(by omega), trivial⟩⟩
  · skip
    refine pe_ldc (j := 243) (v := 1000000) (by decide +kernel) (by decide +kernel) ?_
    refine pe_goto (off := 12) (t := 104) (by decide +kernel) (by decide) rfl ?_
    exact pe_iret (by decide +kernel) rfl rfl ⟨A16, 1000000, rfl, hIq15, (fun k n160 n161 n162 n163 n164 => ((hFq15 k n162 n163 n164)).trans ((upa_fr eA13 n163).trans ((upa_fr eA11 n163).trans (((hFA7 k n161)).trans ((hFq1 k n160 n161 n162 n163)))))), ⟨(by decide +kernel), trivial⟩⟩
set_option maxRecDepth 100000 in
set_option maxHeartbeats 8000000 in
theorem NM_311 {X : pm_X} {d : Nat} {wc : pm_W} {f : Nat → Int32} {A : Nat → List Int32} {x1 x2 x3 x4 x5 : Int32} (hc : wc.length = 147) (hI : MI f A) : pmE pg X pg_tyl pg_cl (d + 8) 311 0 (pm_ent (pm_max pg 311) [.ref 147, .int x1, .int x2, .int x3, .int x4, .int x5]) [] (md wc f A) (fun q => ∃ (f' : Nat → Int32) (A' : Nat → List Int32) (r : Int32), q = (some (.int r), md wc f' A', 0, 0) ∧ MI f' A' ∧ (∀ k : Nat, k ≠ 14 → k ≠ 15 → k ≠ 16 → f' k = f k) ∧ (∀ k : Nat, k ≠ 152 → k ≠ 153 → k ≠ 160 → k ≠ 161 → k ≠ 162 → k ≠ 163 → k ≠ 164 → A' k = A k) ∧ ((((-1) ≤ r.toInt ∧ r.toInt ≤ 2000000) ∧ True))) := by
  show pmE pg X pg_tyl pg_cl (d + 8) 311 0 [.ref 147, .int x1, .int x2, .int x3, .int x4, .int x5] [] (md wc f A) _
  refine pe_iload (j := 4) (by decide +kernel) rfl ?_
  refine pe_iload (j := 5) (by decide +kernel) rfl ?_
  have lw2 := zi_lo x4
  have uw2 := zi_hi x4
  have lw3 := zi_lo x5
  have uw3 := zi_hi x5
  refine pz_icmp_eq (off := 33) (t := 37) (by decide +kernel) (by decide) rfl rfl rfl (fun h1 => ?_) (fun h1 => ?_)
  · skip
    refine pe_iconstv (n := (-1)) (v := (-1)) (by decide +kernel) (by decide +kernel) ?_
    exact pe_iret (by decide +kernel) rfl rfl ⟨f, A, (-1), rfl, hI, (fun k n14 n15 n16 => rfl), (fun k n152 n153 n160 n161 n162 n163 n164 => rfl), ⟨(by decide +kernel), trivial⟩⟩
  · skip
    refine pe_aload_n (j := 0) (by decide +kernel) rfl ?_
    refine pe_iload_n (j := 1) (by decide +kernel) rfl ?_
    refine pe_iload_n (j := 2) (by decide +kernel) rfl ?_
    refine pe_iload_n (j := 3) (by decide +kernel) rfl ?_
    refine pe_iload (j := 4) (by decide +kernel) rfl ?_
    refine pe_iload (j := 5) (by decide +kernel) rfl ?_
    refine pz_callV (j := 235) (mj := 245) (by decide +kernel) (cll_V (args := [.int x5, .int x4, .int x3, .int x2, .int x1]) (n := 5) (by decide +kernel) rfl rfl (md_o hc) (by decide +kernel) (Nat.le_of_ble_eq_true rfl) (Nat.le_of_ble_eq_true rfl)) (MM_245 hc hI) (fun q4a q4b q4c q4d hqq4 => ?_)
    obtain ⟨f5, A6, rq4, eq4, hIq4, hGq4, hFq4, kq4⟩ := hqq4
    cases eq4
    refine ⟨rfl, rfl, ?_⟩
    rcases kq4 with kq4 | kq4
    · skip
      obtain ⟨erq4, kq4⟩ := kq4
      subst erq4
      show pmE pg X pg_tyl pg_cl (d + 8) 311 18 [.ref 147, .int x1, .int x2, .int x3, .int x4, .int x5] [.int 0] (md wc f5 A6) _
      refine pz_if_eq (off := 19) (t := 37) (by decide +kernel) (by decide) rfl kz_0 (fun h7 => ?_) (fun h7 => by omega)
      refine pe_iconstv (n := (-1)) (v := (-1)) (by decide +kernel) (by decide +kernel) ?_
      exact pe_iret (by decide +kernel) rfl rfl ⟨f5, A6, (-1), rfl, hIq4, (fun k n14 n15 n16 => (hGq4 k n14 n15 n16)), (fun k n152 n153 n160 n161 n162 n163 n164 => (hFq4 k n152 n153)), ⟨(by decide +kernel), trivial⟩⟩
    · skip
      obtain ⟨erq4, kq4⟩ := kq4
      subst erq4
      show pmE pg X pg_tyl pg_cl (d + 8) 311 18 [.ref 147, .int x1, .int x2, .int x3, .int x4, .int x5] [.int 1] (md wc f5 A6) _
      refine pz_if_eq (off := 19) (t := 37) (by decide +kernel) (by decide) rfl kz_1 (fun h8 => by omega) (fun h8 => ?_)
      refine pe_aload_n (j := 0) (by decide +kernel) rfl ?_
      refine pe_iconstv (n := 0) (v := 0) (by decide +kernel) (by decide +kernel) ?_
      refine pe_iload_n (j := 1) (by decide +kernel) rfl ?_
      refine pi_S (j := 163) (mj := 217) (by decide +kernel) (by decide +kernel) rfl ?_
      show pmE pg X pg_tyl pg_cl (d + 7) 217 0 [.int 0, .int x1] [] (md wc f5 A6) _
      refine pe_iload_n (j := 0) (by decide +kernel) rfl ?_
      refine pz_if_ne (off := 15) (t := 16) (by decide +kernel) (by decide) rfl kz_0 (fun h9 => by omega) (fun h9 => ?_)
      refine pe_sipushv (n := 610) (v := 610) (by decide +kernel) (by decide +kernel) ?_
      refine pe_sipushv (n := 132) (v := 132) (by decide +kernel) (by decide +kernel) ?_
      refine pe_iload_n (j := 1) (by decide +kernel) rfl ?_
      refine pz_mul (by decide +kernel) kz_132 rfl (by omega) (by omega) (fun z10 hz10 => ?_)
      refine pz_add (by decide +kernel) kz_610 hz10 (by omega) (by omega) (fun z11 hz11 => ?_)
      clear hz10
      refine pe_goto (off := 12) (t := 25) (by decide +kernel) (by decide) rfl ?_
      refine pe_iret (by decide +kernel) rfl rfl ⟨rfl, rfl, ?_⟩
      show pmE pg X pg_tyl pg_cl (d + 8) 311 27 [.ref 147, .int x1, .int x2, .int x3, .int x4, .int x5] [.int z11, .ref 147] (md wc f5 A6) _
      refine pe_iload (j := 4) (by decide +kernel) rfl ?_
      refine pe_iload (j := 5) (by decide +kernel) rfl ?_
      refine pz_callV (j := 381) (mj := 312) (by decide +kernel) (cll_V (args := [.int x5, .int x4, .int z11]) (n := 3) (by decide +kernel) rfl rfl (md_o hc) (by decide +kernel) (Nat.le_of_ble_eq_true rfl) (Nat.le_of_ble_eq_true rfl)) (NM_312 hc hIq4 (by omega) (by omega) (by omega)) (fun q12a q12b q12c q12d hqq12 => ?_)
      obtain ⟨A13, rq12, eq12, hIq12, hFq12, kq12⟩ := hqq12
      cases eq12
      refine ⟨rfl, rfl, ?_⟩
      show pmE pg X pg_tyl pg_cl (d + 8) 311 34 [.ref 147, .int x1, .int x2, .int x3, .int x4, .int x5] [.int rq12] (md wc f5 A13) _
      refine pe_goto (off := 4) (t := 38) (by decide +kernel) (by decide) rfl ?_
      exact pe_iret (by decide +kernel) rfl rfl ⟨f5, A13, rq12, rfl, hIq12, (fun k n14 n15 n16 => (hGq4 k n14 n15 n16)), (fun k n152 n153 n160 n161 n162 n163 n164 => ((hFq12 k n160 n161 n162 n163 n164)).trans ((hFq4 k n152 n153))), ⟨(by omega), trivial⟩⟩
set_option maxRecDepth 100000 in
set_option maxHeartbeats 8000000 in
theorem NL_313_28 {X : pm_X} {d : Nat} {wc : pm_W} {Q : pm_R → Prop} {f : Nat → Int32} {A0 : Nat → List Int32} {x1 x2 x3 x4 x5 : Int32} (hc : wc.length = 147) (gx1 : (0 ≤ x1.toInt ∧ x1.toInt ≤ 1)) (gx2 : ((-1) ≤ x2.toInt ∧ x2.toInt ≤ 2)) (gx3 : (0 ≤ x3.toInt ∧ x3.toInt ≤ 30)) (gx5 : (610 ≤ x5.toInt ∧ x5.toInt ≤ 742 ∧ (x5.toInt - 610) % 132 = 0)) (k_116_0 : ∀ (A' : Nat → List Int32) (y6 : Int32) (y7 : Int32) (y8 : Int32) (v9 : Value), MI f A' → (∀ k : Nat, k ≠ 160 → k ≠ 161 → k ≠ 162 → k ≠ 163 → k ≠ 164 → A' k = A0 k) → ((-1) ≤ y6.toInt) → (0 ≤ y7.toInt) → (0 ≤ y8.toInt ∧ y8.toInt ≤ 81) → pmE pg X pg_tyl pg_cl (d + 7) 313 116 [.ref 147, .int x1, .int x2, .int x3, .int x4, .int x5, .int y6, .int y7, .int y8, v9] [] (md wc f A') Q) : ∀ (m : Nat) (A : Nat → List Int32) (x6 : Int32) (x7 : Int32) (x8 : Int32) (u9 : Value), MI f A → (∀ k : Nat, k ≠ 160 → k ≠ 161 → k ≠ 162 → k ≠ 163 → k ≠ 164 → A k = A0 k) → ((-1) ≤ x6.toInt) → (0 ≤ x7.toInt) → (0 ≤ x8.toInt ∧ x8.toInt ≤ 81) → 81 - x8.toInt < (m : Int) → pmE pg X pg_tyl pg_cl (d + 7) 313 28 [.ref 147, .int x1, .int x2, .int x3, .int x4, .int x5, .int x6, .int x7, .int x8, u9] [] (md wc f A) Q := by
  intro m
  induction m with
  | zero =>
    intro A x6 x7 x8 u9 hI hF gx6 gx7 gx8 hm
    exfalso
    have l0 := zi_lo x8
    have u0 := zi_hi x8
    omega
  | succ m ih =>
    intro A x6 x7 x8 u9 hI hF gx6 gx7 gx8 hm
    refine pe_iload (j := 8) (by decide +kernel) rfl ?_
    refine pe_bipushv (n := 9) (v := 9) (by decide +kernel) (by decide +kernel) ?_
    refine pe_aload_n (j := 0) (by decide +kernel) rfl ?_
    refine pe_get (j := 7) (ci := 12) (n := 0) (by decide +kernel) (by decide +kernel) (md_o hc) rfl ?_
    refine pe_iload (j := 5) (by decide +kernel) rfl ?_
    refine pz_iald (by decide +kernel) (md_a148 hc) (mlen_148 hI) rfl (by omega) (by omega) (fun v1 ev1 => ?_)
    have rv1 : 0 ≤ v1.toInt ∧ v1.toInt ≤ 9 := MT_people (mt_148 hI ev1 (by omega)) (by omega)
    rw [show A 148 = A0 148 from (hF 148 (by decide) (by decide) (by decide) (by decide) (by decide))] at ev1
    refine pz_mul (by decide +kernel) kz_9 rfl (by omega) (by omega) (fun z2 hz2 => ?_)
    refine pz_icmp_ge (off := 76) (t := 116) (by decide +kernel) (by decide) rfl rfl hz2 (fun h3 => ?_) (fun h3 => ?_)
    · skip
      clear hz2
      exact k_116_0 A x6 x7 x8 (u9) hI (fun k n160 n161 n162 n163 n164 => (hF k n160 n161 n162 n163 n164)) (by omega) (by omega) (by omega)
    · skip
      clear hz2
      refine pe_iload (j := 8) (by decide +kernel) rfl ?_
      refine pe_bipushv (n := 10) (v := 10) (by decide +kernel) (by decide +kernel) ?_
      refine pz_rem (by decide +kernel) rfl kz_10 (by omega) (by omega) (fun z4 hz4 gz4 kz4 => ?_)
      refine pz_if_eq (off := 62) (t := 110) (by decide +kernel) (by decide) rfl rfl (fun h5 => ?_) (fun h5 => ?_)
      · skip
        refine pz_iinc (j := 8) (n := 1) (by decide +kernel) rfl rfl (by decide +kernel) (by omega) (by omega) (fun z6 hz6 => ?_)
        show pmE pg X pg_tyl pg_cl (d + 7) 313 113 [.ref 147, .int x1, .int x2, .int x3, .int x4, .int x5, .int x6, .int x7, .int z6, u9] [] (md wc f A) _
        refine pe_goto (off := (-85)) (t := 28) (by decide +kernel) (by decide) rfl ?_
        exact ih A x6 x7 z6 (u9) hI (fun k n160 n161 n162 n163 n164 => (hF k n160 n161 n162 n163 n164)) (by omega) (by omega) (by omega) (by omega)
      · skip
        refine pe_iload (j := 8) (by decide +kernel) rfl ?_
        refine pe_bipushv (n := 9) (v := 9) (by decide +kernel) (by decide +kernel) ?_
        refine pz_rem (by decide +kernel) rfl kz_9 (by omega) (by omega) (fun z7 hz7 gz7 kz7 => ?_)
        refine pe_aload_n (j := 0) (by decide +kernel) rfl ?_
        refine pe_get (j := 7) (ci := 12) (n := 0) (by decide +kernel) (by decide +kernel) (md_o hc) rfl ?_
        refine pe_iload (j := 5) (by decide +kernel) rfl ?_
        refine pz_iald (by decide +kernel) (md_a148 hc) (mlen_148 hI) rfl (by omega) (by omega) (fun v8 ev8 => ?_)
        rw [show A 148 = A0 148 from (hF 148 (by decide) (by decide) (by decide) (by decide) (by decide))] at ev8
        rw [ev8.trans ev1.symm]
        clear ev8 v8
        refine pz_icmp_lt (off := 6) (t := 69) (by decide +kernel) (by decide) rfl rfl rfl (fun h9 => ?_) (fun h9 => ?_)
        · skip
          refine pe_aload_n (j := 0) (by decide +kernel) rfl ?_
          refine pe_iload (j := 5) (by decide +kernel) rfl ?_
          refine pe_iload (j := 8) (by decide +kernel) rfl ?_
          refine pe_bipushv (n := 9) (v := 9) (by decide +kernel) (by decide +kernel) ?_
          refine pz_div (by decide +kernel) rfl kz_9 (by omega) (by omega) (fun z10 hz10 => ?_)
          refine pe_iload (j := 8) (by decide +kernel) rfl ?_
          refine pe_bipushv (n := 9) (v := 9) (by decide +kernel) (by decide +kernel) ?_
          refine pz_rem (by decide +kernel) rfl kz_9 (by omega) (by omega) (fun z11 hz11 gz11 kz11 => ?_)
          refine pz_callV (j := 381) (mj := 312) (by decide +kernel) (cll_V (args := [.int z11, .int z10, .int x5]) (n := 3) (by decide +kernel) rfl rfl (md_o hc) (by decide +kernel) (Nat.le_of_ble_eq_true rfl) (Nat.le_of_ble_eq_true rfl)) (NM_312 hc hI (by omega) (by omega) (by omega)) (fun q12a q12b q12c q12d hqq12 => ?_)
          obtain ⟨A13, rq12, eq12, hIq12, hFq12, kq12⟩ := hqq12
          cases eq12
          refine ⟨rfl, rfl, ?_⟩
          show pmE pg X pg_tyl pg_cl (d + 7) 313 85 [.ref 147, .int x1, .int x2, .int x3, .int x4, .int x5, .int x6, .int x7, .int x8, u9] [.int rq12] (md wc f A13) _
          refine pe_istore (j := 9) (ls' := [.ref 147, .int x1, .int x2, .int x3, .int x4, .int x5, .int x6, .int x7, .int x8, .int rq12]) (by decide +kernel) (Nat.le_of_ble_eq_true rfl) rfl ?_
          refine pe_iload (j := 6) (by decide +kernel) rfl ?_
          have lw15 := zi_lo x6
          have uw15 := zi_hi x6
          refine pz_if_lt (off := 13) (t := 102) (by decide +kernel) (by decide) rfl rfl (fun h14 => ?_) (fun h14 => ?_)
          · skip
            refine pe_iload (j := 8) (by decide +kernel) rfl ?_
            refine pe_istore (j := 6) (ls' := [.ref 147, .int x1, .int x2, .int x3, .int x4, .int x5, .int x8, .int x7, .int x8, .int rq12]) (by decide +kernel) (Nat.le_of_ble_eq_true rfl) rfl ?_
            refine pe_iload (j := 9) (by decide +kernel) rfl ?_
            refine pe_istore (j := 7) (ls' := [.ref 147, .int x1, .int x2, .int x3, .int x4, .int x5, .int x8, .int rq12, .int x8, .int rq12]) (by decide +kernel) (Nat.le_of_ble_eq_true rfl) rfl ?_
            refine pz_iinc (j := 8) (n := 1) (by decide +kernel) rfl rfl (by decide +kernel) (by omega) (by omega) (fun z16 hz16 => ?_)
            show pmE pg X pg_tyl pg_cl (d + 7) 313 113 [.ref 147, .int x1, .int x2, .int x3, .int x4, .int x5, .int x8, .int rq12, .int z16, .int rq12] [] (md wc f A13) _
            refine pe_goto (off := (-85)) (t := 28) (by decide +kernel) (by decide) rfl ?_
            exact ih A13 x8 rq12 z16 (.int rq12) hIq12 (fun k n160 n161 n162 n163 n164 => ((hFq12 k n160 n161 n162 n163 n164)).trans ((hF k n160 n161 n162 n163 n164))) (by omega) (by omega) (by omega) (by omega)
          · skip
            refine pe_iload (j := 9) (by decide +kernel) rfl ?_
            refine pe_iload (j := 7) (by decide +kernel) rfl ?_
            have lw18 := zi_lo x7
            have uw18 := zi_hi x7
            refine pz_icmp_lt (off := 6) (t := 102) (by decide +kernel) (by decide) rfl rfl rfl (fun h17 => ?_) (fun h17 => ?_)
            · skip
              refine pe_iload (j := 8) (by decide +kernel) rfl ?_
              refine pe_istore (j := 6) (ls' := [.ref 147, .int x1, .int x2, .int x3, .int x4, .int x5, .int x8, .int x7, .int x8, .int rq12]) (by decide +kernel) (Nat.le_of_ble_eq_true rfl) rfl ?_
              refine pe_iload (j := 9) (by decide +kernel) rfl ?_
              refine pe_istore (j := 7) (ls' := [.ref 147, .int x1, .int x2, .int x3, .int x4, .int x5, .int x8, .int rq12, .int x8, .int rq12]) (by decide +kernel) (Nat.le_of_ble_eq_true rfl) rfl ?_
              refine pz_iinc (j := 8) (n := 1) (by decide +kernel) rfl rfl (by decide +kernel) (by omega) (by omega) (fun z19 hz19 => ?_)
              show pmE pg X pg_tyl pg_cl (d + 7) 313 113 [.ref 147, .int x1, .int x2, .int x3, .int x4, .int x5, .int x8, .int rq12, .int z19, .int rq12] [] (md wc f A13) _
              refine pe_goto (off := (-85)) (t := 28) (by decide +kernel) (by decide) rfl ?_
              exact ih A13 x8 rq12 z19 (.int rq12) hIq12 (fun k n160 n161 n162 n163 n164 => ((hFq12 k n160 n161 n162 n163 n164)).trans ((hF k n160 n161 n162 n163 n164))) (by omega) (by omega) (by omega) (by omega)
            · skip
              refine pe_goto (off := 11) (t := 110) (by decide +kernel) (by decide) rfl ?_
              refine pz_iinc (j := 8) (n := 1) (by decide +kernel) rfl rfl (by decide +kernel) (by omega) (by omega) (fun z20 hz20 => ?_)
              show pmE pg X pg_tyl pg_cl (d + 7) 313 113 [.ref 147, .int x1, .int x2, .int x3, .int x4, .int x5, .int x6, .int x7, .int z20, .int rq12] [] (md wc f A13) _
              refine pe_goto (off := (-85)) (t := 28) (by decide +kernel) (by decide) rfl ?_
              exact ih A13 x6 x7 z20 (.int rq12) hIq12 (fun k n160 n161 n162 n163 n164 => ((hFq12 k n160 n161 n162 n163 n164)).trans ((hF k n160 n161 n162 n163 n164))) (by omega) (by omega) (by omega) (by omega)
        · skip
          refine pe_goto (off := 44) (t := 110) (by decide +kernel) (by decide) rfl ?_
          refine pz_iinc (j := 8) (n := 1) (by decide +kernel) rfl rfl (by decide +kernel) (by omega) (by omega) (fun z21 hz21 => ?_)
          show pmE pg X pg_tyl pg_cl (d + 7) 313 113 [.ref 147, .int x1, .int x2, .int x3, .int x4, .int x5, .int x6, .int x7, .int z21, u9] [] (md wc f A) _
          refine pe_goto (off := (-85)) (t := 28) (by decide +kernel) (by decide) rfl ?_
          exact ih A x6 x7 z21 (u9) hI (fun k n160 n161 n162 n163 n164 => (hF k n160 n161 n162 n163 n164)) (by omega) (by omega) (by omega) (by omega)
set_option maxRecDepth 100000 in
set_option maxHeartbeats 8000000 in
theorem NM_313 {X : pm_X} {d : Nat} {wc : pm_W} {f : Nat → Int32} {A : Nat → List Int32} {x1 x2 x3 x4 : Int32} (hc : wc.length = 147) (hI : MI f A) : pmE pg X pg_tyl pg_cl (d + 7) 313 0 (pm_ent (pm_max pg 313) [.ref 147, .int x1, .int x2, .int x3, .int x4]) [] (md wc f A) (fun q => ∃ (f' : Nat → Int32) (A' : Nat → List Int32) (r : Int32), q = (some (.int r), md wc f' A', 0, 0) ∧ MI f' A' ∧ (∀ k : Nat, k ≠ 14 → k ≠ 15 → k ≠ 16 → f' k = f k) ∧ (∀ k : Nat, k ≠ 152 → k ≠ 153 → k ≠ 160 → k ≠ 161 → k ≠ 162 → k ≠ 163 → k ≠ 164 → A' k = A k) ∧ ((True ∧ True))) := by
  show pmE pg X pg_tyl pg_cl (d + 7) 313 0 [.ref 147, .int x1, .int x2, .int x3, .int x4, pm_dead, pm_dead, pm_dead, pm_dead, pm_dead] [] (md wc f A) _
  refine pe_aload_n (j := 0) (by decide +kernel) rfl ?_
  refine pe_iload_n (j := 1) (by decide +kernel) rfl ?_
  refine pe_iload_n (j := 2) (by decide +kernel) rfl ?_
  refine pe_iload_n (j := 3) (by decide +kernel) rfl ?_
  refine pz_callV (j := 232) (mj := 246) (by decide +kernel) (cll_V (args := [.int x3, .int x2, .int x1]) (n := 3) (by decide +kernel) rfl rfl (md_o hc) (by decide +kernel) (Nat.le_of_ble_eq_true rfl) (Nat.le_of_ble_eq_true rfl)) (MM_246 hc hI) (fun q1a q1b q1c q1d hqq1 => ?_)
  obtain ⟨f2, A3, rq1, eq1, hIq1, hGq1, hFq1, kq1⟩ := hqq1
  cases eq1
  refine ⟨rfl, rfl, ?_⟩
  rcases kq1 with kq1 | kq1
  · skip
    obtain ⟨erq1, kq1⟩ := kq1
    subst erq1
    show pmE pg X pg_tyl pg_cl (d + 7) 313 7 [.ref 147, .int x1, .int x2, .int x3, .int x4, pm_dead, pm_dead, pm_dead, pm_dead, pm_dead] [.int 0] (md wc f2 A3) _
    refine pz_if_ne (off := 5) (t := 12) (by decide +kernel) (by decide) rfl kz_0 (fun h4 => by omega) (fun h4 => ?_)
    refine pe_iconstv (n := (-1)) (v := (-1)) (by decide +kernel) (by decide +kernel) ?_
    exact pe_iret (by decide +kernel) rfl rfl ⟨f2, A3, (-1), rfl, hIq1, (fun k n14 n15 n16 => (hGq1 k n14 n15 n16)), (fun k n152 n153 n160 n161 n162 n163 n164 => (hFq1 k n152 n153)), ⟨trivial, trivial⟩⟩
  · skip
    obtain ⟨erq1, kq1⟩ := kq1
    subst erq1
    show pmE pg X pg_tyl pg_cl (d + 7) 313 7 [.ref 147, .int x1, .int x2, .int x3, .int x4, pm_dead, pm_dead, pm_dead, pm_dead, pm_dead] [.int 1] (md wc f2 A3) _
    refine pz_if_ne (off := 5) (t := 12) (by decide +kernel) (by decide) rfl kz_1 (fun h5 => ?_) (fun h5 => by omega)
    refine pe_iconstv (n := 0) (v := 0) (by decide +kernel) (by decide +kernel) ?_
    refine pe_iload_n (j := 1) (by decide +kernel) rfl ?_
    refine pi_S (j := 163) (mj := 217) (by decide +kernel) (by decide +kernel) rfl ?_
    show pmE pg X pg_tyl pg_cl (d + 6) 217 0 [.int 0, .int x1] [] (md wc f2 A3) _
    refine pe_iload_n (j := 0) (by decide +kernel) rfl ?_
    refine pz_if_ne (off := 15) (t := 16) (by decide +kernel) (by decide) rfl kz_0 (fun h6 => by omega) (fun h6 => ?_)
    refine pe_sipushv (n := 610) (v := 610) (by decide +kernel) (by decide +kernel) ?_
    refine pe_sipushv (n := 132) (v := 132) (by decide +kernel) (by decide +kernel) ?_
    refine pe_iload_n (j := 1) (by decide +kernel) rfl ?_
    refine pz_mul (by decide +kernel) kz_132 rfl (by omega) (by omega) (fun z7 hz7 => ?_)
    refine pz_add (by decide +kernel) kz_610 hz7 (by omega) (by omega) (fun z8 hz8 => ?_)
    clear hz7
    refine pe_goto (off := 12) (t := 25) (by decide +kernel) (by decide) rfl ?_
    refine pe_iret (by decide +kernel) rfl rfl ⟨rfl, rfl, ?_⟩
    show pmE pg X pg_tyl pg_cl (d + 7) 313 17 [.ref 147, .int x1, .int x2, .int x3, .int x4, pm_dead, pm_dead, pm_dead, pm_dead, pm_dead] [.int z8] (md wc f2 A3) _
    refine pe_istore (j := 5) (ls' := [.ref 147, .int x1, .int x2, .int x3, .int x4, .int z8, pm_dead, pm_dead, pm_dead, pm_dead]) (by decide +kernel) (Nat.le_of_ble_eq_true rfl) rfl ?_
    refine pe_iconstv (n := (-1)) (v := (-1)) (by decide +kernel) (by decide +kernel) ?_
    refine pe_istore (j := 6) (ls' := [.ref 147, .int x1, .int x2, .int x3, .int x4, .int z8, .int (-1), pm_dead, pm_dead, pm_dead]) (by decide +kernel) (Nat.le_of_ble_eq_true rfl) rfl ?_
    refine pe_iconstv (n := 0) (v := 0) (by decide +kernel) (by decide +kernel) ?_
    refine pe_istore (j := 7) (ls' := [.ref 147, .int x1, .int x2, .int x3, .int x4, .int z8, .int (-1), .int 0, pm_dead, pm_dead]) (by decide +kernel) (Nat.le_of_ble_eq_true rfl) rfl ?_
    refine pe_iconstv (n := 0) (v := 0) (by decide +kernel) (by decide +kernel) ?_
    refine pe_istore (j := 8) (ls' := [.ref 147, .int x1, .int x2, .int x3, .int x4, .int z8, .int (-1), .int 0, .int 0, pm_dead]) (by decide +kernel) (Nat.le_of_ble_eq_true rfl) rfl ?_
    refine NL_313_28 hc (by omega) (by omega) (by omega) (by omega) (fun A9 y10 y11 y12 u13 hIy14 hFA9 gy10 gy11 gy12 => ?_) 82 A3 (-1) 0 0 (pm_dead) hIq1 (fun k _ _ _ _ _ => rfl) (by decide +kernel) (by decide +kernel) (by decide +kernel) (by decide +kernel)
    refine pe_iload (j := 4) (by decide +kernel) rfl ?_
    have lw16 := zi_lo x4
    have uw16 := zi_hi x4
    refine pz_if_eq (off := 11) (t := 129) (by decide +kernel) (by decide) rfl rfl (fun h15 => ?_) (fun h15 => ?_)
    · skip
      refine pe_iload (j := 6) (by decide +kernel) rfl ?_
      refine pe_bipushv (n := 9) (v := 9) (by decide +kernel) (by decide +kernel) ?_
      refine pw_div (by decide +kernel) (by decide +kernel) (fun z17 => ?_)
      exact pe_iret (by decide +kernel) rfl rfl ⟨f2, A9, z17, rfl, hIy14, (fun k n14 n15 n16 => (hGq1 k n14 n15 n16)), (fun k n152 n153 n160 n161 n162 n163 n164 => ((hFA9 k n160 n161 n162 n163 n164)).trans ((hFq1 k n152 n153))), ⟨trivial, trivial⟩⟩
    · skip
      refine pe_iload (j := 6) (by decide +kernel) rfl ?_
      refine pe_bipushv (n := 9) (v := 9) (by decide +kernel) (by decide +kernel) ?_
      refine pw_rem (by decide +kernel) (by decide +kernel) (fun z18 => ?_)
      refine pe_goto (off := 8) (t := 134) (by decide +kernel) (by decide) rfl ?_
      exact pe_iret (by decide +kernel) rfl rfl ⟨f2, A9, z18, rfl, hIy14, (fun k n14 n15 n16 => (hGq1 k n14 n15 n16)), (fun k n152 n153 n160 n161 n162 n163 n164 => ((hFA9 k n160 n161 n162 n163 n164)).trans ((hFq1 k n152 n153))), ⟨trivial, trivial⟩⟩
