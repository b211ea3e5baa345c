set_option maxRecDepth 100000 in
set_option maxHeartbeats 8000000 in
theorem MM_265 {X : pm_X} {d : Nat} {wc : pm_W} {f : Nat → Int32} {A : Nat → List Int32} {x1 x2 x3 x4 : Int32} (hc : wc.length = 147) (hI : MI f A) : pmE pg X pg_tyl pg_cl (d + 7) 265 0 (pm_ent (pm_max pg 265) [.ref 147, .int x1, .int x2, .int x3, .int x4]) [] (md wc f A) (fun q => ∃ (f' : Nat → Int32) (A' : Nat → List Int32) (r : Int32), q = (some (.int r), md wc f' A', 0, 0) ∧ MI f' A' ∧ (∀ k : Nat, k ≠ 14 → k ≠ 15 → k ≠ 16 → f' k = f k) ∧ (∀ k : Nat, k ≠ 152 → k ≠ 153 → A' k = A k) ∧ ((r = 0 ∧ True) ∨ (r = 1 ∧ (0 ≤ x1.toInt ∧ x1.toInt ≤ 1) ∧ ((-1) ≤ x2.toInt ∧ x2.toInt ≤ 2) ∧ (0 ≤ x3.toInt ∧ x3.toInt ≤ 30) ∧ (0 ≤ x4.toInt ∧ x4.toInt ≤ 6)))) := by
  show pmE pg X pg_tyl pg_cl (d + 7) 265 0 [.ref 147, .int x1, .int x2, .int x3, .int x4] [] (md wc f A) _
  refine pe_aload_n (j := 0) (by decide +kernel) rfl ?_
  refine pe_iload_n (j := 1) (by decide +kernel) rfl ?_
  refine pe_iload_n (j := 2) (by decide +kernel) rfl ?_
  refine pe_iload_n (j := 3) (by decide +kernel) rfl ?_
  refine pz_callV (j := 232) (mj := 246) (by decide +kernel) (cll_V (args := [.int x3, .int x2, .int x1]) (n := 3) (by decide +kernel) rfl rfl (md_o hc) (by decide +kernel) (Nat.le_of_ble_eq_true rfl) (Nat.le_of_ble_eq_true rfl)) (MM_246 hc hI) (fun q1a q1b q1c q1d hqq1 => ?_)
  obtain ⟨f2, A3, rq1, eq1, hIq1, hGq1, hFq1, kq1⟩ := hqq1
  cases eq1
  refine ⟨rfl, rfl, ?_⟩
  rcases kq1 with kq1 | kq1
  · skip
    obtain ⟨erq1, kq1⟩ := kq1
    subst erq1
    show pmE pg X pg_tyl pg_cl (d + 7) 265 7 [.ref 147, .int x1, .int x2, .int x3, .int x4] [.int 0] (md wc f2 A3) _
    refine pz_if_eq (off := 21) (t := 28) (by decide +kernel) (by decide) rfl kz_0 (fun h4 => ?_) (fun h4 => by omega)
    refine pe_iconstv (n := 0) (v := 0) (by decide +kernel) (by decide +kernel) ?_
    exact pe_iret (by decide +kernel) rfl rfl ⟨f2, A3, 0, rfl, hIq1, (fun k n14 n15 n16 => (hGq1 k n14 n15 n16)), (fun k n152 n153 => (hFq1 k n152 n153)), Or.inl ⟨rfl, trivial⟩⟩
  · skip
    obtain ⟨erq1, kq1⟩ := kq1
    subst erq1
    show pmE pg X pg_tyl pg_cl (d + 7) 265 7 [.ref 147, .int x1, .int x2, .int x3, .int x4] [.int 1] (md wc f2 A3) _
    refine pz_if_eq (off := 21) (t := 28) (by decide +kernel) (by decide) rfl kz_1 (fun h5 => by omega) (fun h5 => ?_)
    refine pe_aload_n (j := 0) (by decide +kernel) rfl ?_
    refine pe_iconstv (n := 0) (v := 0) (by decide +kernel) (by decide +kernel) ?_
    refine pe_iload_n (j := 1) (by decide +kernel) rfl ?_
    refine pi_S (j := 163) (mj := 217) (by decide +kernel) (by decide +kernel) rfl ?_
    show pmE pg X pg_tyl pg_cl (d + 6) 217 0 [.int 0, .int x1] [] (md wc f2 A3) _
    refine pe_iload_n (j := 0) (by decide +kernel) rfl ?_
    refine pz_if_ne (off := 15) (t := 16) (by decide +kernel) (by decide) rfl kz_0 (fun h6 => by omega) (fun h6 => ?_)
    refine pe_sipushv (n := 610) (v := 610) (by decide +kernel) (by decide +kernel) ?_
    refine pe_sipushv (n := 132) (v := 132) (by decide +kernel) (by decide +kernel) ?_
    refine pe_iload_n (j := 1) (by decide +kernel) rfl ?_
    refine pz_mul (by decide +kernel) kz_132 rfl (by omega) (by omega) (fun z7 hz7 => ?_)
    refine pz_add (by decide +kernel) kz_610 hz7 (by omega) (by omega) (fun z8 hz8 => ?_)
    clear hz7
    refine pe_goto (off := 12) (t := 25) (by decide +kernel) (by decide) rfl ?_
    refine pe_iret (by decide +kernel) rfl rfl ⟨rfl, rfl, ?_⟩
    show pmE pg X pg_tyl pg_cl (d + 7) 265 16 [.ref 147, .int x1, .int x2, .int x3, .int x4] [.int z8, .ref 147] (md wc f2 A3) _
    refine pe_iload (j := 4) (by decide +kernel) rfl ?_
    refine pi_V (j := 169) (mj := 223) (by decide +kernel) (cll_V (args := [.int x4, .int z8]) (n := 2) (by decide +kernel) rfl rfl (md_o hc) (by decide +kernel) (Nat.le_of_ble_eq_true rfl) (Nat.le_of_ble_eq_true rfl)) ?_
    show pmE pg X pg_tyl pg_cl (d + 6) 223 0 [.ref 147, .int z8, .int x4] [] (md wc f2 A3) _
    refine pe_iload_n (j := 2) (by decide +kernel) rfl ?_
    refine pe_iconstv (n := 0) (v := 0) (by decide +kernel) (by decide +kernel) ?_
    refine pe_aload_n (j := 0) (by decide +kernel) rfl ?_
    refine pe_get (j := 7) (ci := 12) (n := 0) (by decide +kernel) (by decide +kernel) (md_o hc) rfl ?_
    refine pe_iload_n (j := 1) (by decide +kernel) rfl ?_
    refine pe_iconstv (n := 1) (v := 1) (by decide +kernel) (by decide +kernel) ?_
    refine pz_add (by decide +kernel) hz8 kz_1 (by omega) (by omega) (fun z9 hz9 => ?_)
    refine mz_ld148 (by decide +kernel) hc hIq1 hz9 (by omega) (by omega) (fun v10 ev10 pv10 => ?_)
    rw [show A3 148 = A 148 from (hFq1 148 (by decide) (by decide))] at ev10
    have rv10 : 0 ≤ v10.toInt ∧ v10.toInt ≤ 7 := MT_wants pv10 (by omega)
    clear pv10
    clear hz9
    refine pe_iconstv (n := 1) (v := 1) (by decide +kernel) (by decide +kernel) ?_
    refine pz_sub (by decide +kernel) rfl kz_1 (by omega) (by omega) (fun z11 hz11 => ?_)
    refine pi_S (j := 119) (mj := 199) (by decide +kernel) (by decide +kernel) rfl ?_
    show pmE pg X pg_tyl pg_cl (d + 5) 199 0 [.int x4, .int 0, .int z11] [] (md wc f2 A3) _
    refine pe_iload_n (j := 0) (by decide +kernel) rfl ?_
    refine pe_iload_n (j := 1) (by decide +kernel) rfl ?_
    refine pz_icmp_lt (off := 12) (t := 14) (by decide +kernel) (by decide) rfl rfl kz_0 (fun h12 => ?_) (fun h12 => ?_)
    · skip
      refine pe_iconstv (n := 0) (v := 0) (by decide +kernel) (by decide +kernel) ?_
      refine pe_iret (by decide +kernel) rfl rfl ⟨rfl, rfl, ?_⟩
      show pmE pg X pg_tyl pg_cl (d + 6) 223 15 [.ref 147, .int z8, .int x4] [.int 0] (md wc f2 A3) _
      refine pe_iret (by decide +kernel) rfl rfl ⟨rfl, rfl, ?_⟩
      show pmE pg X pg_tyl pg_cl (d + 7) 265 21 [.ref 147, .int x1, .int x2, .int x3, .int x4] [.int 0] (md wc f2 A3) _
      refine pz_if_eq (off := 7) (t := 28) (by decide +kernel) (by decide) rfl kz_0 (fun h13 => ?_) (fun h13 => by omega)
      refine pe_iconstv (n := 0) (v := 0) (by decide +kernel) (by decide +kernel) ?_
      exact pe_iret (by decide +kernel) rfl rfl ⟨f2, A3, 0, rfl, hIq1, (fun k n14 n15 n16 => (hGq1 k n14 n15 n16)), (fun k n152 n153 => (hFq1 k n152 n153)), Or.inl ⟨rfl, trivial⟩⟩
    · skip
      refine pe_iload_n (j := 0) (by decide +kernel) rfl ?_
      refine pe_iload_n (j := 2) (by decide +kernel) rfl ?_
      refine pz_icmp_gt (off := 7) (t := 14) (by decide +kernel) (by decide) rfl rfl hz11 (fun h14 => ?_) (fun h14 => ?_)
      · skip
        refine pe_iconstv (n := 0) (v := 0) (by decide +kernel) (by decide +kernel) ?_
        refine pe_iret (by decide +kernel) rfl rfl ⟨rfl, rfl, ?_⟩
        show pmE pg X pg_tyl pg_cl (d + 6) 223 15 [.ref 147, .int z8, .int x4] [.int 0] (md wc f2 A3) _
        refine pe_iret (by decide +kernel) rfl rfl ⟨rfl, rfl, ?_⟩
        show pmE pg X pg_tyl pg_cl (d + 7) 265 21 [.ref 147, .int x1, .int x2, .int x3, .int x4] [.int 0] (md wc f2 A3) _
        refine pz_if_eq (off := 7) (t := 28) (by decide +kernel) (by decide) rfl kz_0 (fun h15 => ?_) (fun h15 => by omega)
        refine pe_iconstv (n := 0) (v := 0) (by decide +kernel) (by decide +kernel) ?_
        exact pe_iret (by decide +kernel) rfl rfl ⟨f2, A3, 0, rfl, hIq1, (fun k n14 n15 n16 => (hGq1 k n14 n15 n16)), (fun k n152 n153 => (hFq1 k n152 n153)), Or.inl ⟨rfl, trivial⟩⟩
      · skip
        refine pe_iconstv (n := 1) (v := 1) (by decide +kernel) (by decide +kernel) ?_
        refine pe_goto (off := 4) (t := 15) (by decide +kernel) (by decide) rfl ?_
        refine pe_iret (by decide +kernel) rfl rfl ⟨rfl, rfl, ?_⟩
        show pmE pg X pg_tyl pg_cl (d + 6) 223 15 [.ref 147, .int z8, .int x4] [.int 1] (md wc f2 A3) _
        refine pe_iret (by decide +kernel) rfl rfl ⟨rfl, rfl, ?_⟩
        show pmE pg X pg_tyl pg_cl (d + 7) 265 21 [.ref 147, .int x1, .int x2, .int x3, .int x4] [.int 1] (md wc f2 A3) _
        refine pz_if_eq (off := 7) (t := 28) (by decide +kernel) (by decide) rfl kz_1 (fun h16 => by omega) (fun h16 => ?_)
        refine pe_iconstv (n := 1) (v := 1) (by decide +kernel) (by decide +kernel) ?_
        refine pe_goto (off := 4) (t := 29) (by decide +kernel) (by decide) rfl ?_
        exact pe_iret (by decide +kernel) rfl rfl ⟨f2, A3, 1, rfl, hIq1, (fun k n14 n15 n16 => (hGq1 k n14 n15 n16)), (fun k n152 n153 => (hFq1 k n152 n153)), Or.inr (⟨rfl, (by omega)⟩)⟩
set_option maxRecDepth 100000 in
set_option maxHeartbeats 8000000 in
theorem ML_266_165 {X : pm_X} {d : Nat} {wc : pm_W} {Q : pm_R → Prop} {f : Nat → Int32} {A0 : Nat → List Int32} {x1 x2 x3 x4 x5 x8 x9 : Int32} {j6 j10 : Int64} (hc : wc.length = 147) (gx1 : (610 ≤ x1.toInt ∧ x1.toInt ≤ 742 ∧ (x1.toInt - 610) % 132 = 0)) (gx2 : (0 ≤ x2.toInt ∧ x2.toInt ≤ 6)) (gx8 : (2 ≤ x8.toInt ∧ x8.toInt ≤ 6)) (gx9 : (0 ≤ x9.toInt ∧ x9.toInt ≤ 2147483646)) (hk0 : (∀ j : Int, (0) ≤ j → j < (x8.toInt) → 0 ≤ ((A0 158).getD j.toNat 0).toInt ∧ ((A0 158).getD j.toNat 0).toInt ≤ 8)) (k_192_0 : ∀ (A' : Nat → List Int32) (y12 : Int32), MI f A' → (∀ k : Nat, k ≠ 159 → A' k = A0 k) → (2 ≤ y12.toInt ∧ y12.toInt ≤ 6) → x8.toInt ≤ y12.toInt → pmE pg X pg_tyl pg_cl (d + 3) 266 192 [.ref 147, .int x1, .int x2, .int x3, .int x4, .int x5, .long j6, pm_dead, .int x8, .int x9, .long j10, pm_dead, .int y12] [] (md wc f A') Q) : ∀ (m : Nat) (A : Nat → List Int32) (x12 : Int32), MI f A → (∀ k : Nat, k ≠ 159 → A k = A0 k) → (0 ≤ x12.toInt ∧ x12.toInt ≤ 6) → 6 - x12.toInt < (m : Int) → pmE pg X pg_tyl pg_cl (d + 3) 266 165 [.ref 147, .int x1, .int x2, .int x3, .int x4, .int x5, .long j6, pm_dead, .int x8, .int x9, .long j10, pm_dead, .int x12] [] (md wc f A) Q := by
  intro m
  induction m with
  | zero =>
    intro A x12 hI hF gx12 hm
    exfalso
    have l0 := zi_lo x12
    have u0 := zi_hi x12
    omega
  | succ m ih =>
    intro A x12 hI hF gx12 hm
    refine pe_iload (j := 12) (by decide +kernel) rfl ?_
    refine pe_iload (j := 8) (by decide +kernel) rfl ?_
    refine pz_icmp_ge (off := 23) (t := 192) (by decide +kernel) (by decide) rfl rfl rfl (fun h1 => ?_) (fun h1 => ?_)
    · skip
      exact k_192_0 A x12 hI (fun k n159 => (hF k n159)) (by omega) (by omega)
    · skip
      refine pe_aload_n (j := 0) (by decide +kernel) rfl ?_
      refine pe_get (j := 44) (ci := 12) (n := 22) (by decide +kernel) (by decide +kernel) (md_o hc) rfl ?_
      refine pe_iload (j := 12) (by decide +kernel) rfl ?_
      refine pe_aload_n (j := 0) (by decide +kernel) rfl ?_
      refine pe_get (j := 41) (ci := 12) (n := 21) (by decide +kernel) (by decide +kernel) (md_o hc) rfl ?_
      refine pe_iload (j := 12) (by decide +kernel) rfl ?_
      refine mz_ld158 (by decide +kernel) hc hI rfl (by omega) (by omega) (fun v2 ev2 pv2 => ?_)
      rw [show A 158 = A0 158 from (hF 158 (by decide))] at ev2
      have rv2 : 0 ≤ v2.toInt ∧ v2.toInt ≤ 9 := by have p := pv2; simp only [MP_round] at p; omega
      clear pv2
      have rq3 := hk0 x12.toInt (by omega) (by omega)
      rw [← ev2] at rq3
      refine mz_st159 (by decide +kernel) hc hI rfl (by omega) (by omega) (by simp only [MP_bestRound]; omega) (fun A4 eA4 hIA4 => ?_)
      refine pz_iinc (j := 12) (n := 1) (by decide +kernel) rfl rfl (by decide +kernel) (by omega) (by omega) (fun z5 hz5 => ?_)
      show pmE pg X pg_tyl pg_cl (d + 3) 266 189 [.ref 147, .int x1, .int x2, .int x3, .int x4, .int x5, .long j6, pm_dead, .int x8, .int x9, .long j10, pm_dead, .int z5] [] (md wc f A4) _
      refine pe_goto (off := (-24)) (t := 165) (by decide +kernel) (by decide) rfl ?_
      exact ih A4 z5 hIA4 (fun k n159 => (upa_fr eA4 n159).trans ((hF k n159))) (by omega) (by omega)
set_option maxRecDepth 100000 in
set_option maxHeartbeats 8000000 in
theorem ML_266_21 {X : pm_X} {d : Nat} {wc : pm_W} {Q : pm_R → Prop} {f0 : Nat → Int32} {A0 : Nat → List Int32} {x1 x2 x3 x4 x5 x8 : Int32} (hc : wc.length = 147) (gx1 : (610 ≤ x1.toInt ∧ x1.toInt ≤ 742 ∧ (x1.toInt - 610) % 132 = 0)) (gx2 : (0 ≤ x2.toInt ∧ x2.toInt ≤ 6)) (gx8 : (2 ≤ x8.toInt ∧ x8.toInt ≤ 6)) (k_198_0 : ∀ (f' : Nat → Int32) (A' : Nat → List Int32) (i6 : Int64) (y9 : Int32) (v10 : Value) (v12 : Value), MI f' A' → (∀ k : Nat, k ≠ 23 → k ≠ 24 → f' k = f0 k) → (∀ k : Nat, k ≠ 158 → k ≠ 159 → A' k = A0 k) → (0 ≤ y9.toInt) → pmE pg X pg_tyl pg_cl (d + 3) 266 198 [.ref 147, .int x1, .int x2, .int x3, .int x4, .int x5, .long i6, pm_dead, .int x8, .int y9, v10, pm_dead, v12] [] (md wc f' A') Q) : ∀ (m : Nat) (f : Nat → Int32) (A : Nat → List Int32) (j6 : Int64) (x9 : Int32) (u10 : Value) (u12 : Value), MI f A → (∀ k : Nat, k ≠ 23 → k ≠ 24 → f k = f0 k) → (∀ k : Nat, k ≠ 158 → k ≠ 159 → A k = A0 k) → (0 ≤ x9.toInt) → 2147483647 - x9.toInt < (m : Int) → pmE pg X pg_tyl pg_cl (d + 3) 266 21 [.ref 147, .int x1, .int x2, .int x3, .int x4, .int x5, .long j6, pm_dead, .int x8, .int x9, u10, pm_dead, u12] [] (md wc f A) Q := by
  intro m
  induction m with
  | zero =>
    intro f A j6 x9 u10 u12 hI hG hF gx9 hm
    exfalso
    have l0 := zi_lo x9
    have u0 := zi_hi x9
    omega
  | succ m ih =>
    intro f A j6 x9 u10 u12 hI hG hF gx9 hm
    refine pe_iload (j := 9) (by decide +kernel) rfl ?_
    refine pe_iload (j := 8) (by decide +kernel) rfl ?_
    refine pe_iconstv (n := 2) (v := 2) (by decide +kernel) (by decide +kernel) ?_
    refine pz_sub (by decide +kernel) rfl kz_2 (by omega) (by omega) (fun z1 hz1 => ?_)
    refine pz_callS (j := 286) (mj := 267) (by decide +kernel) (by decide +kernel) rfl (MM_267 hc hI (by omega)) (fun q2a q2b q2c q2d hqq2 => ?_)
    obtain ⟨rq2, eq2, kq2⟩ := hqq2
    cases eq2
    refine ⟨rfl, rfl, ?_⟩
    show pmE pg X pg_tyl pg_cl (d + 3) 266 30 [.ref 147, .int x1, .int x2, .int x3, .int x4, .int x5, .long j6, pm_dead, .int x8, .int x9, u10, pm_dead, u12] [.int rq2, .int x9] (md wc f A) _
    refine pz_icmp_ge (off := 168) (t := 198) (by decide +kernel) (by decide) rfl rfl rfl (fun h3 => ?_) (fun h3 => ?_)
    · skip
      exact k_198_0 f A j6 x9 (u10) (u12) hI (fun k n23 n24 => (hG k n23 n24)) (fun k n158 n159 => (hF k n158 n159)) (by omega)
    · skip
      refine pe_aload_n (j := 0) (by decide +kernel) rfl ?_
      refine pe_get (j := 41) (ci := 12) (n := 21) (by decide +kernel) (by decide +kernel) (md_o hc) rfl ?_
      refine pe_iconstv (n := 0) (v := 0) (by decide +kernel) (by decide +kernel) ?_
      refine pe_aload_n (j := 0) (by decide +kernel) rfl ?_
      refine pe_iload_n (j := 1) (by decide +kernel) rfl ?_
      refine pe_iload_n (j := 2) (by decide +kernel) rfl ?_
      refine pe_iconstv (n := 0) (v := 0) (by decide +kernel) (by decide +kernel) ?_
      refine pi_V (j := 172) (mj := 224) (by decide +kernel) (cll_V (args := [.int 0, .int x2, .int x1]) (n := 3) (by decide +kernel) rfl rfl (md_o hc) (by decide +kernel) (Nat.le_of_ble_eq_true rfl) (Nat.le_of_ble_eq_true rfl)) ?_
      show pmE pg X pg_tyl pg_cl (d + 2) 224 0 [.ref 147, .int x1, .int x2, .int 0] [] (md wc f A) _
      refine pe_aload_n (j := 0) (by decide +kernel) rfl ?_
      refine pe_get (j := 7) (ci := 12) (n := 0) (by decide +kernel) (by decide +kernel) (md_o hc) rfl ?_
      refine pe_iload_n (j := 1) (by decide +kernel) rfl ?_
      refine pe_bipushv (n := 102) (v := 102) (by decide +kernel) (by decide +kernel) ?_
      refine pz_add (by decide +kernel) rfl kz_102 (by omega) (by omega) (fun z4 hz4 => ?_)
      refine pe_iconstv (n := 4) (v := 4) (by decide +kernel) (by decide +kernel) ?_
      refine pe_iload_n (j := 2) (by decide +kernel) rfl ?_
      refine pz_mul (by decide +kernel) kz_4 rfl (by omega) (by omega) (fun z5 hz5 => ?_)
      refine pz_add (by decide +kernel) hz4 hz5 (by omega) (by omega) (fun z6 hz6 => ?_)
      clear hz4 hz5
      refine pe_iload_n (j := 3) (by decide +kernel) rfl ?_
      refine pz_add (by decide +kernel) hz6 kz_0 (by omega) (by omega) (fun z7 hz7 => ?_)
      clear hz6
      refine mz_ld148 (by decide +kernel) hc hI hz7 (by omega) (by omega) (fun v8 ev8 pv8 => ?_)
      rw [show A 148 = A0 148 from (hF 148 (by decide) (by decide))] at ev8
      have rv8 : 0 ≤ v8.toInt ∧ v8.toInt ≤ 8 := MT_want pv8 (by omega)
      clear pv8
      clear hz7
      refine pe_iret (by decide +kernel) rfl rfl ⟨rfl, rfl, ?_⟩
      show pmE pg X pg_tyl pg_cl (d + 3) 266 45 [.ref 147, .int x1, .int x2, .int x3, .int x4, .int x5, .long j6, pm_dead, .int x8, .int x9, u10, pm_dead, u12] [.int v8, .int 0, .ref 158] (md wc f A) _
      refine mz_st158 (by decide +kernel) hc hI kz_0 (by omega) (by omega) (by simp only [MP_round]; omega) (fun A9 eA9 hIA9 => ?_)
      refine pe_aload_n (j := 0) (by decide +kernel) rfl ?_
      refine pe_get (j := 41) (ci := 12) (n := 21) (by decide +kernel) (by decide +kernel) (md_o hc) rfl ?_
      refine pe_iconstv (n := 1) (v := 1) (by decide +kernel) (by decide +kernel) ?_
      refine pe_aload_n (j := 0) (by decide +kernel) rfl ?_
      refine pe_iload_n (j := 1) (by decide +kernel) rfl ?_
      refine pe_iload_n (j := 2) (by decide +kernel) rfl ?_
      refine pe_iconstv (n := 1) (v := 1) (by decide +kernel) (by decide +kernel) ?_
      refine pi_V (j := 172) (mj := 224) (by decide +kernel) (cll_V (args := [.int 1, .int x2, .int x1]) (n := 3) (by decide +kernel) rfl rfl (md_o hc) (by decide +kernel) (Nat.le_of_ble_eq_true rfl) (Nat.le_of_ble_eq_true rfl)) ?_
      show pmE pg X pg_tyl pg_cl (d + 2) 224 0 [.ref 147, .int x1, .int x2, .int 1] [] (md wc f A9) _
      refine pe_aload_n (j := 0) (by decide +kernel) rfl ?_
      refine pe_get (j := 7) (ci := 12) (n := 0) (by decide +kernel) (by decide +kernel) (md_o hc) rfl ?_
      refine pe_iload_n (j := 1) (by decide +kernel) rfl ?_
      refine pe_bipushv (n := 102) (v := 102) (by decide +kernel) (by decide +kernel) ?_
      refine pz_add (by decide +kernel) rfl kz_102 (by omega) (by omega) (fun z10 hz10 => ?_)
      refine pe_iconstv (n := 4) (v := 4) (by decide +kernel) (by decide +kernel) ?_
      refine pe_iload_n (j := 2) (by decide +kernel) rfl ?_
      refine pz_mul (by decide +kernel) kz_4 rfl (by omega) (by omega) (fun z11 hz11 => ?_)
      refine pz_add (by decide +kernel) hz10 hz11 (by omega) (by omega) (fun z12 hz12 => ?_)
      clear hz10 hz11
      refine pe_iload_n (j := 3) (by decide +kernel) rfl ?_
      refine pz_add (by decide +kernel) hz12 kz_1 (by omega) (by omega) (fun z13 hz13 => ?_)
      clear hz12
      refine mz_ld148 (by decide +kernel) hc hIA9 hz13 (by omega) (by omega) (fun v14 ev14 pv14 => ?_)
      rw [show A9 148 = A0 148 from (upa_fr eA9 (by decide)).trans ((hF 148 (by decide) (by decide)))] at ev14
      have rv14 : 0 ≤ v14.toInt ∧ v14.toInt ≤ 8 := MT_want pv14 (by omega)
      clear pv14
      clear hz13
      refine pe_iret (by decide +kernel) rfl rfl ⟨rfl, rfl, ?_⟩
      show pmE pg X pg_tyl pg_cl (d + 3) 266 58 [.ref 147, .int x1, .int x2, .int x3, .int x4, .int x5, .long j6, pm_dead, .int x8, .int x9, u10, pm_dead, u12] [.int v14, .int 1, .ref 158] (md wc f A9) _
      refine mz_st158 (by decide +kernel) hc hIA9 kz_1 (by omega) (by omega) (by simp only [MP_round]; omega) (fun A15 eA15 hIA15 => ?_)
      refine pe_aload_n (j := 0) (by decide +kernel) rfl ?_
      refine pe_iload_n (j := 1) (by decide +kernel) rfl ?_
      refine pe_iconstv (n := 2) (v := 2) (by decide +kernel) (by decide +kernel) ?_
      refine pe_iload (j := 8) (by decide +kernel) rfl ?_
      refine pe_iload (j := 9) (by decide +kernel) rfl ?_
      refine pz_callV (j := 289) (mj := 268) (by decide +kernel) (cll_V (args := [.int x9, .int x8, .int 2, .int x1]) (n := 4) (by decide +kernel) rfl rfl (md_o hc) (by decide +kernel) (Nat.le_of_ble_eq_true rfl) (Nat.le_of_ble_eq_true rfl)) (MM_268 hc hIA15 (by omega) (by decide +kernel) (by omega) (by omega)) (fun q16a q16b q16c q16d hqq16 => ?_)
      obtain ⟨A17, rq16, eq16, hIq16, hFq16, kq16⟩ := hqq16
      cases eq16
      refine ⟨rfl, rfl, ?_⟩
      rcases kq16 with kq16 | kq16
      · skip
        obtain ⟨erq16, kq16⟩ := kq16
        subst erq16
        show pmE pg X pg_tyl pg_cl (d + 3) 266 69 [.ref 147, .int x1, .int x2, .int x3, .int x4, .int x5, .long j6, pm_dead, .int x8, .int x9, u10, pm_dead, u12] [.int 0] (md wc f A17) _
        refine pz_if_eq (off := 123) (t := 192) (by decide +kernel) (by decide) rfl kz_0 (fun h18 => ?_) (fun h18 => by omega)
        refine pz_iinc (j := 9) (n := 1) (by decide +kernel) rfl rfl (by decide +kernel) (by omega) (by omega) (fun z19 hz19 => ?_)
        show pmE pg X pg_tyl pg_cl (d + 3) 266 195 [.ref 147, .int x1, .int x2, .int x3, .int x4, .int x5, .long j6, pm_dead, .int x8, .int z19, u10, pm_dead, u12] [] (md wc f A17) _
        refine pe_goto (off := (-174)) (t := 21) (by decide +kernel) (by decide) rfl ?_
        exact ih f A17 j6 z19 (u10) (u12) hIq16 (fun k n23 n24 => (hG k n23 n24)) (fun k n158 n159 => ((hFq16 k n158)).trans ((upa_fr eA15 n158).trans ((upa_fr eA9 n158).trans ((hF k n158 n159))))) (by omega) (by omega)
      · skip
        obtain ⟨erq16, kq16⟩ := kq16
        subst erq16
        obtain ⟨hq20, kq16⟩ := kq16
        show pmE pg X pg_tyl pg_cl (d + 3) 266 69 [.ref 147, .int x1, .int x2, .int x3, .int x4, .int x5, .long j6, pm_dead, .int x8, .int x9, u10, pm_dead, u12] [.int 1] (md wc f A17) _
        refine pz_if_eq (off := 123) (t := 192) (by decide +kernel) (by decide) rfl kz_1 (fun h21 => by omega) (fun h21 => ?_)
        refine pe_aload_n (j := 0) (by decide +kernel) rfl ?_
        refine pe_iload_n (j := 1) (by decide +kernel) rfl ?_
        refine pe_iload (j := 8) (by decide +kernel) rfl ?_
        refine pe_aload_n (j := 0) (by decide +kernel) rfl ?_
        refine pe_iload_n (j := 1) (by decide +kernel) rfl ?_
        refine pe_iload_n (j := 2) (by decide +kernel) rfl ?_
        refine pe_iconstv (n := 2) (v := 2) (by decide +kernel) (by decide +kernel) ?_
        refine pi_V (j := 172) (mj := 224) (by decide +kernel) (cll_V (args := [.int 2, .int x2, .int x1]) (n := 3) (by decide +kernel) rfl rfl (md_o hc) (by decide +kernel) (Nat.le_of_ble_eq_true rfl) (Nat.le_of_ble_eq_true rfl)) ?_
        show pmE pg X pg_tyl pg_cl (d + 2) 224 0 [.ref 147, .int x1, .int x2, .int 2] [] (md wc f A17) _
        refine pe_aload_n (j := 0) (by decide +kernel) rfl ?_
        refine pe_get (j := 7) (ci := 12) (n := 0) (by decide +kernel) (by decide +kernel) (md_o hc) rfl ?_
        refine pe_iload_n (j := 1) (by decide +kernel) rfl ?_
        refine pe_bipushv (n := 102) (v := 102) (by decide +kernel) (by decide +kernel) ?_
        refine pz_add (by decide +kernel) rfl kz_102 (by omega) (by omega) (fun z22 hz22 => ?_)
        refine pe_iconstv (n := 4) (v := 4) (by decide +kernel) (by decide +kernel) ?_
        refine pe_iload_n (j := 2) (by decide +kernel) rfl ?_
        refine pz_mul (by decide +kernel) kz_4 rfl (by omega) (by omega) (fun z23 hz23 => ?_)
        refine pz_add (by decide +kernel) hz22 hz23 (by omega) (by omega) (fun z24 hz24 => ?_)
        clear hz22 hz23
        refine pe_iload_n (j := 3) (by decide +kernel) rfl ?_
        refine pz_add (by decide +kernel) hz24 kz_2 (by omega) (by omega) (fun z25 hz25 => ?_)
        clear hz24
        refine mz_ld148 (by decide +kernel) hc hIq16 hz25 (by omega) (by omega) (fun v26 ev26 pv26 => ?_)
        rw [show A17 148 = A0 148 from ((hFq16 148 (by decide))).trans ((upa_fr eA15 (by decide)).trans ((upa_fr eA9 (by decide)).trans ((hF 148 (by decide) (by decide)))))] at ev26
        clear pv26
        clear hz25
        refine pe_iret (by decide +kernel) rfl rfl ⟨rfl, rfl, ?_⟩
        show pmE pg X pg_tyl pg_cl (d + 3) 266 83 [.ref 147, .int x1, .int x2, .int x3, .int x4, .int x5, .long j6, pm_dead, .int x8, .int x9, u10, pm_dead, u12] [.int v26, .int x8, .int x1, .ref 147] (md wc f A17) _
        have hq27 : (∀ j : Int, (0) ≤ j → j < (x8.toInt) → 0 ≤ ((A17 158).getD j.toNat 0).toInt ∧ ((A17 158).getD j.toNat 0).toInt ≤ 8) := by
          intro j h1 h2
          first
          | (exfalso; omega)
          | exact hq20 j (by omega) (by omega)
        refine pz_callV (j := 293) (mj := 269) (by decide +kernel) (cll_V (args := [.int v26, .int x8, .int x1]) (n := 3) (by decide +kernel) rfl rfl (md_o hc) (by decide +kernel) (Nat.le_of_ble_eq_true rfl) (Nat.le_of_ble_eq_true rfl)) (MM_269 hc hIq16 (by omega) (by omega) hq27) (fun q28a q28b q28c q28d hqq28 => ?_)
        obtain ⟨rq28, eq28, kq28⟩ := hqq28
        cases eq28
        refine ⟨rfl, rfl, ?_⟩
        show pmE pg X pg_tyl pg_cl (d + 3) 266 86 [.ref 147, .int x1, .int x2, .int x3, .int x4, .int x5, .long j6, pm_dead, .int x8, .int x9, u10, pm_dead, u12] [.int rq28] (md wc f A17) _
        refine pz_if_ne (off := 6) (t := 92) (by decide +kernel) (by decide) rfl rfl (fun h29 => ?_) (fun h29 => ?_)
        · skip
          refine pe_aload_n (j := 0) (by decide +kernel) rfl ?_
          refine pe_iload (j := 8) (by decide +kernel) rfl ?_
          refine mz_put24 (jj := 278) (by decide +kernel) (by decide +kernel) hc hIq16 (by omega) (by omega) (fun f30 ef30 hIf30 => ?_)
          refine pe_iload_n (j := 3) (by decide +kernel) rfl ?_
          refine pz_if_ne (off := 7) (t := 106) (by decide +kernel) (by decide) rfl rfl (fun h31 => ?_) (fun h31 => ?_)
          · skip
            refine pe_iload_n (j := 3) (by decide +kernel) rfl ?_
            refine pe_iconstv (n := 1) (v := 1) (by decide +kernel) (by decide +kernel) ?_
            refine pz_icmp_ne (off := 17) (t := 125) (by decide +kernel) (by decide) rfl rfl kz_1 (fun h32 => ?_) (fun h32 => ?_)
            · skip
              refine pe_aload_n (j := 0) (by decide +kernel) rfl ?_
              refine pe_iload_n (j := 1) (by decide +kernel) rfl ?_
              refine pe_iload (j := 8) (by decide +kernel) rfl ?_
              refine pz_callV (j := 299) (mj := 271) (by decide +kernel) (cll_V (args := [.int x8, .int x1]) (n := 2) (by decide +kernel) rfl rfl (md_o hc) (by decide +kernel) (Nat.le_of_ble_eq_true rfl) (Nat.le_of_ble_eq_true rfl)) (MM_271 hc hIf30 (by omega) (by omega)) (fun q33a q33b q33c q33d hqq33 => ?_)
              obtain ⟨lq33, eq33, kq33⟩ := hqq33
              cases eq33
              refine ⟨rfl, rfl, ?_⟩
              show pmE pg X pg_tyl pg_cl (d + 3) 266 132 [.ref 147, .int x1, .int x2, .int x3, .int x4, .int x5, .long j6, pm_dead, .int x8, .int x9, u10, pm_dead, u12] [.long lq33] (md wc f30 A17) _
              refine pe_lstore (j := 10) (ls' := [.ref 147, .int x1, .int x2, .int x3, .int x4, .int x5, .long j6, pm_dead, .int x8, .int x9, .long lq33, pm_dead, u12]) (by decide +kernel) (Nat.le_of_ble_eq_true rfl) rfl ?_
              refine pe_aload_n (j := 0) (by decide +kernel) rfl ?_
              refine pe_get (j := 283) (ci := 12) (n := 23) (by decide +kernel) (by decide +kernel) (md_o hc) rfl ?_
              have hr_23_f := hI.1 23
              simp only [MF] at hr_23_f
              refine pe_top (v := (f 23)) (upf_fr ef30 (by decide)) ?_
              refine pz_if_le (off := 14) (t := 152) (by decide +kernel) (by decide) rfl rfl (fun h34 => ?_) (fun h34 => ?_)
              · skip
                refine pe_lload (j := 10) (by decide +kernel) rfl ?_
                refine pe_lstore (j := 6) (ls' := [.ref 147, .int x1, .int x2, .int x3, .int x4, .int x5, .long lq33, pm_dead, .int x8, .int x9, .long lq33, pm_dead, u12]) (by decide +kernel) (Nat.le_of_ble_eq_true rfl) rfl ?_
                refine pe_aload_n (j := 0) (by decide +kernel) rfl ?_
                refine pe_iload (j := 8) (by decide +kernel) rfl ?_
                refine mz_put23 (jj := 283) (by decide +kernel) (by decide +kernel) hc hIf30 (by omega) (by omega) (fun f35 ef35 hIf35 => ?_)
                refine pe_iconstv (n := 0) (v := 0) (by decide +kernel) (by decide +kernel) ?_
                refine pe_istore (j := 12) (ls' := [.ref 147, .int x1, .int x2, .int x3, .int x4, .int x5, .long lq33, pm_dead, .int x8, .int x9, .long lq33, pm_dead, .int 0]) (by decide +kernel) (Nat.le_of_ble_eq_true rfl) rfl ?_
                have hk36 : (∀ j : Int, (0) ≤ j → j < (x8.toInt) → 0 ≤ ((A17 158).getD j.toNat 0).toInt ∧ ((A17 158).getD j.toNat 0).toInt ≤ 8) := by
                  intro j h1 h2
                  first
                  | (exfalso; omega)
                  | exact hq20 j (by omega) (by omega)
                refine ML_266_165 hc (by omega) (by omega) (by omega) (by omega) hk36 (fun A37 y39 hIy38 hFhIy38 gy39 hr40 => ?_) 7 A17 0 hIf35 (fun k _ => rfl) (by decide +kernel) (by decide +kernel)
                refine pz_iinc (j := 9) (n := 1) (by decide +kernel) rfl rfl (by decide +kernel) (by omega) (by omega) (fun z41 hz41 => ?_)
                show pmE pg X pg_tyl pg_cl (d + 3) 266 195 [.ref 147, .int x1, .int x2, .int x3, .int x4, .int x5, .long lq33, pm_dead, .int x8, .int z41, .long lq33, pm_dead, .int y39] [] (md wc f35 A37) _
                refine pe_goto (off := (-174)) (t := 21) (by decide +kernel) (by decide) rfl ?_
                exact ih f35 A37 lq33 z41 (.long lq33) (.int y39) hIy38 (fun k n23 n24 => (upf_fr ef35 n23).trans ((upf_fr ef30 n24).trans ((hG k n23 n24)))) (fun k n158 n159 => ((hFhIy38 k n159)).trans (((hFq16 k n158)).trans ((upa_fr eA15 n158).trans ((upa_fr eA9 n158).trans ((hF k n158 n159)))))) (by omega) (by omega)
              · skip
                refine pe_lload (j := 10) (by decide +kernel) rfl ?_
                refine pe_lload (j := 6) (by decide +kernel) rfl ?_
                refine pw_lcmp (by decide +kernel) (fun z42 => ?_)
                refine pz_if_gt (off := 6) (t := 152) (by decide +kernel) (by decide) rfl rfl (fun h43 => ?_) (fun h43 => ?_)
                · skip
                  refine pe_lload (j := 10) (by decide +kernel) rfl ?_
                  refine pe_lstore (j := 6) (ls' := [.ref 147, .int x1, .int x2, .int x3, .int x4, .int x5, .long lq33, pm_dead, .int x8, .int x9, .long lq33, pm_dead, u12]) (by decide +kernel) (Nat.le_of_ble_eq_true rfl) rfl ?_
                  refine pe_aload_n (j := 0) (by decide +kernel) rfl ?_
                  refine pe_iload (j := 8) (by decide +kernel) rfl ?_
                  refine mz_put23 (jj := 283) (by decide +kernel) (by decide +kernel) hc hIf30 (by omega) (by omega) (fun f44 ef44 hIf44 => ?_)
                  refine pe_iconstv (n := 0) (v := 0) (by decide +kernel) (by decide +kernel) ?_
                  refine pe_istore (j := 12) (ls' := [.ref 147, .int x1, .int x2, .int x3, .int x4, .int x5, .long lq33, pm_dead, .int x8, .int x9, .long lq33, pm_dead, .int 0]) (by decide +kernel) (Nat.le_of_ble_eq_true rfl) rfl ?_
                  have hk45 : (∀ j : Int, (0) ≤ j → j < (x8.toInt) → 0 ≤ ((A17 158).getD j.toNat 0).toInt ∧ ((A17 158).getD j.toNat 0).toInt ≤ 8) := by
                    intro j h1 h2
                    first
                    | (exfalso; omega)
                    | exact hq20 j (by omega) (by omega)
                  refine ML_266_165 hc (by omega) (by omega) (by omega) (by omega) hk45 (fun A46 y48 hIy47 hFhIy47 gy48 hr49 => ?_) 7 A17 0 hIf44 (fun k _ => rfl) (by decide +kernel) (by decide +kernel)
                  refine pz_iinc (j := 9) (n := 1) (by decide +kernel) rfl rfl (by decide +kernel) (by omega) (by omega) (fun z50 hz50 => ?_)
                  show pmE pg X pg_tyl pg_cl (d + 3) 266 195 [.ref 147, .int x1, .int x2, .int x3, .int x4, .int x5, .long lq33, pm_dead, .int x8, .int z50, .long lq33, pm_dead, .int y48] [] (md wc f44 A46) _
                  refine pe_goto (off := (-174)) (t := 21) (by decide +kernel) (by decide) rfl ?_
                  exact ih f44 A46 lq33 z50 (.long lq33) (.int y48) hIy47 (fun k n23 n24 => (upf_fr ef44 n23).trans ((upf_fr ef30 n24).trans ((hG k n23 n24)))) (fun k n158 n159 => ((hFhIy47 k n159)).trans (((hFq16 k n158)).trans ((upa_fr eA15 n158).trans ((upa_fr eA9 n158).trans ((hF k n158 n159)))))) (by omega) (by omega)
                · skip
                  refine pe_goto (off := 43) (t := 192) (by decide +kernel) (by decide) rfl ?_
                  refine pz_iinc (j := 9) (n := 1) (by decide +kernel) rfl rfl (by decide +kernel) (by omega) (by omega) (fun z51 hz51 => ?_)
                  show pmE pg X pg_tyl pg_cl (d + 3) 266 195 [.ref 147, .int x1, .int x2, .int x3, .int x4, .int x5, .long j6, pm_dead, .int x8, .int z51, .long lq33, pm_dead, u12] [] (md wc f30 A17) _
                  refine pe_goto (off := (-174)) (t := 21) (by decide +kernel) (by decide) rfl ?_
                  exact ih f30 A17 j6 z51 (.long lq33) (u12) hIf30 (fun k n23 n24 => (upf_fr ef30 n24).trans ((hG k n23 n24))) (fun k n158 n159 => ((hFq16 k n158)).trans ((upa_fr eA15 n158).trans ((upa_fr eA9 n158).trans ((hF k n158 n159))))) (by omega) (by omega)
            · skip
              refine pe_aload_n (j := 0) (by decide +kernel) rfl ?_
              refine pe_iload_n (j := 1) (by decide +kernel) rfl ?_
              refine pe_iload (j := 4) (by decide +kernel) rfl ?_
              refine pe_iload (j := 5) (by decide +kernel) rfl ?_
              refine pz_callV (j := 296) (mj := 270) (by decide +kernel) (cll_V (args := [.int x5, .int x4, .int x1]) (n := 3) (by decide +kernel) rfl rfl (md_o hc) (by decide +kernel) (Nat.le_of_ble_eq_true rfl) (Nat.le_of_ble_eq_true rfl)) (MM_270 hc hIf30 (by omega)) (fun q52a q52b q52c q52d hqq52 => ?_)
              obtain ⟨rq52, eq52, kq52⟩ := hqq52
              cases eq52
              refine ⟨rfl, rfl, ?_⟩
              show pmE pg X pg_tyl pg_cl (d + 3) 266 120 [.ref 147, .int x1, .int x2, .int x3, .int x4, .int x5, .long j6, pm_dead, .int x8, .int x9, u10, pm_dead, u12] [.int rq52] (md wc f30 A17) _
              refine pw_neg (by decide +kernel) (fun z53 => ?_)
              refine pw_i2l (by decide +kernel) (fun l54 => ?_)
              refine pe_goto (off := 10) (t := 132) (by decide +kernel) (by decide) rfl ?_
              refine pe_lstore (j := 10) (ls' := [.ref 147, .int x1, .int x2, .int x3, .int x4, .int x5, .long j6, pm_dead, .int x8, .int x9, .long l54, pm_dead, u12]) (by decide +kernel) (Nat.le_of_ble_eq_true rfl) rfl ?_
              refine pe_aload_n (j := 0) (by decide +kernel) rfl ?_
              refine pe_get (j := 283) (ci := 12) (n := 23) (by decide +kernel) (by decide +kernel) (md_o hc) rfl ?_
              have hr_23_f := hI.1 23
              simp only [MF] at hr_23_f
              refine pe_top (v := (f 23)) (upf_fr ef30 (by decide)) ?_
              refine pz_if_le (off := 14) (t := 152) (by decide +kernel) (by decide) rfl rfl (fun h55 => ?_) (fun h55 => ?_)
              · skip
                refine pe_lload (j := 10) (by decide +kernel) rfl ?_
                refine pe_lstore (j := 6) (ls' := [.ref 147, .int x1, .int x2, .int x3, .int x4, .int x5, .long l54, pm_dead, .int x8, .int x9, .long l54, pm_dead, u12]) (by decide +kernel) (Nat.le_of_ble_eq_true rfl) rfl ?_
                refine pe_aload_n (j := 0) (by decide +kernel) rfl ?_
                refine pe_iload (j := 8) (by decide +kernel) rfl ?_
                refine mz_put23 (jj := 283) (by decide +kernel) (by decide +kernel) hc hIf30 (by omega) (by omega) (fun f56 ef56 hIf56 => ?_)
                refine pe_iconstv (n := 0) (v := 0) (by decide +kernel) (by decide +kernel) ?_
                refine pe_istore (j := 12) (ls' := [.ref 147, .int x1, .int x2, .int x3, .int x4, .int x5, .long l54, pm_dead, .int x8, .int x9, .long l54, pm_dead, .int 0]) (by decide +kernel) (Nat.le_of_ble_eq_true rfl) rfl ?_
                have hk57 : (∀ j : Int, (0) ≤ j → j < (x8.toInt) → 0 ≤ ((A17 158).getD j.toNat 0).toInt ∧ ((A17 158).getD j.toNat 0).toInt ≤ 8) := by
                  intro j h1 h2
                  first
                  | (exfalso; omega)
                  | exact hq20 j (by omega) (by omega)
                refine ML_266_165 hc (by omega) (by omega) (by omega) (by omega) hk57 (fun A58 y60 hIy59 hFhIy59 gy60 hr61 => ?_) 7 A17 0 hIf56 (fun k _ => rfl) (by decide +kernel) (by decide +kernel)
                refine pz_iinc (j := 9) (n := 1) (by decide +kernel) rfl rfl (by decide +kernel) (by omega) (by omega) (fun z62 hz62 => ?_)
                show pmE pg X pg_tyl pg_cl (d + 3) 266 195 [.ref 147, .int x1, .int x2, .int x3, .int x4, .int x5, .long l54, pm_dead, .int x8, .int z62, .long l54, pm_dead, .int y60] [] (md wc f56 A58) _
                refine pe_goto (off := (-174)) (t := 21) (by decide +kernel) (by decide) rfl ?_
                exact ih f56 A58 l54 z62 (.long l54) (.int y60) hIy59 (fun k n23 n24 => (upf_fr ef56 n23).trans ((upf_fr ef30 n24).trans ((hG k n23 n24)))) (fun k n158 n159 => ((hFhIy59 k n159)).trans (((hFq16 k n158)).trans ((upa_fr eA15 n158).trans ((upa_fr eA9 n158).trans ((hF k n158 n159)))))) (by omega) (by omega)
              · skip
                refine pe_lload (j := 10) (by decide +kernel) rfl ?_
                refine pe_lload (j := 6) (by decide +kernel) rfl ?_
                refine pw_lcmp (by decide +kernel) (fun z63 => ?_)
                refine pz_if_gt (off := 6) (t := 152) (by decide +kernel) (by decide) rfl rfl (fun h64 => ?_) (fun h64 => ?_)
                · skip
                  refine pe_lload (j := 10) (by decide +kernel) rfl ?_
                  refine pe_lstore (j := 6) (ls' := [.ref 147, .int x1, .int x2, .int x3, .int x4, .int x5, .long l54, pm_dead, .int x8, .int x9, .long l54, pm_dead, u12]) (by decide +kernel) (Nat.le_of_ble_eq_true rfl) rfl ?_
                  refine pe_aload_n (j := 0) (by decide +kernel) rfl ?_
                  refine pe_iload (j := 8) (by decide +kernel) rfl ?_
                  refine mz_put23 (jj := 283) (by decide +kernel) (by decide +kernel) hc hIf30 (by omega) (by omega) (fun f65 ef65 hIf65 => ?_)
                  refine pe_iconstv (n := 0) (v := 0) (by decide +kernel) (by decide +kernel) ?_
                  refine pe_istore (j := 12) (ls' := [.ref 147, .int x1, .int x2, .int x3, .int x4, .int x5, .long l54, pm_dead, .int x8, .int x9, .long l54, pm_dead, .int 0]) (by decide +kernel) (Nat.le_of_ble_eq_true rfl) rfl ?_
                  have hk66 : (∀ j : Int, (0) ≤ j → j < (x8.toInt) → 0 ≤ ((A17 158).getD j.toNat 0).toInt ∧ ((A17 158).getD j.toNat 0).toInt ≤ 8) := by
                    intro j h1 h2
                    first
                    | (exfalso; omega)
                    | exact hq20 j (by omega) (by omega)
                  refine ML_266_165 hc (by omega) (by omega) (by omega) (by omega) hk66 (fun A67 y69 hIy68 hFhIy68 gy69 hr70 => ?_) 7 A17 0 hIf65 (fun k _ => rfl) (by decide +kernel) (by decide +kernel)
                  refine pz_iinc (j := 9) (n := 1) (by decide +kernel) rfl rfl (by decide +kernel) (by omega) (by omega) (fun z71 hz71 => ?_)
                  show pmE pg X pg_tyl pg_cl (d + 3) 266 195 [.ref 147, .int x1, .int x2, .int x3, .int x4, .int x5, .long l54, pm_dead, .int x8, .int z71, .long l54, pm_dead, .int y69] [] (md wc f65 A67) _
                  refine pe_goto (off := (-174)) (t := 21) (by decide +kernel) (by decide) rfl ?_
                  exact ih f65 A67 l54 z71 (.long l54) (.int y69) hIy68 (fun k n23 n24 => (upf_fr ef65 n23).trans ((upf_fr ef30 n24).trans ((hG k n23 n24)))) (fun k n158 n159 => ((hFhIy68 k n159)).trans (((hFq16 k n158)).trans ((upa_fr eA15 n158).trans ((upa_fr eA9 n158).trans ((hF k n158 n159)))))) (by omega) (by omega)
                · skip
                  refine pe_goto (off := 43) (t := 192) (by decide +kernel) (by decide) rfl ?_
                  refine pz_iinc (j := 9) (n := 1) (by decide +kernel) rfl rfl (by decide +kernel) (by omega) (by omega) (fun z72 hz72 => ?_)
                  show pmE pg X pg_tyl pg_cl (d + 3) 266 195 [.ref 147, .int x1, .int x2, .int x3, .int x4, .int x5, .long j6, pm_dead, .int x8, .int z72, .long l54, pm_dead, u12] [] (md wc f30 A17) _
                  refine pe_goto (off := (-174)) (t := 21) (by decide +kernel) (by decide) rfl ?_
                  exact ih f30 A17 j6 z72 (.long l54) (u12) hIf30 (fun k n23 n24 => (upf_fr ef30 n24).trans ((hG k n23 n24))) (fun k n158 n159 => ((hFq16 k n158)).trans ((upa_fr eA15 n158).trans ((upa_fr eA9 n158).trans ((hF k n158 n159))))) (by omega) (by omega)
          · skip
            refine pw_lconst (n := 0) (by decide +kernel) (fun l73 => ?_)
            refine pe_goto (off := 29) (t := 132) (by decide +kernel) (by decide) rfl ?_
            refine pe_lstore (j := 10) (ls' := [.ref 147, .int x1, .int x2, .int x3, .int x4, .int x5, .long j6, pm_dead, .int x8, .int x9, .long l73, pm_dead, u12]) (by decide +kernel) (Nat.le_of_ble_eq_true rfl) rfl ?_
            refine pe_aload_n (j := 0) (by decide +kernel) rfl ?_
            refine pe_get (j := 283) (ci := 12) (n := 23) (by decide +kernel) (by decide +kernel) (md_o hc) rfl ?_
            have hr_23_f := hI.1 23
            simp only [MF] at hr_23_f
            refine pe_top (v := (f 23)) (upf_fr ef30 (by decide)) ?_
            refine pz_if_le (off := 14) (t := 152) (by decide +kernel) (by decide) rfl rfl (fun h74 => ?_) (fun h74 => ?_)
            · skip
              refine pe_lload (j := 10) (by decide +kernel) rfl ?_
              refine pe_lstore (j := 6) (ls' := [.ref 147, .int x1, .int x2, .int x3, .int x4, .int x5, .long l73, pm_dead, .int x8, .int x9, .long l73, pm_dead, u12]) (by decide +kernel) (Nat.le_of_ble_eq_true rfl) rfl ?_
              refine pe_aload_n (j := 0) (by decide +kernel) rfl ?_
              refine pe_iload (j := 8) (by decide +kernel) rfl ?_
              refine mz_put23 (jj := 283) (by decide +kernel) (by decide +kernel) hc hIf30 (by omega) (by omega) (fun f75 ef75 hIf75 => ?_)
              refine pe_iconstv (n := 0) (v := 0) (by decide +kernel) (by decide +kernel) ?_
              refine pe_istore (j := 12) (ls' := [.ref 147, .int x1, .int x2, .int x3, .int x4, .int x5, .long l73, pm_dead, .int x8, .int x9, .long l73, pm_dead, .int 0]) (by decide +kernel) (Nat.le_of_ble_eq_true rfl) rfl ?_
              have hk76 : (∀ j : Int, (0) ≤ j → j < (x8.toInt) → 0 ≤ ((A17 158).getD j.toNat 0).toInt ∧ ((A17 158).getD j.toNat 0).toInt ≤ 8) := by
                intro j h1 h2
                first
                | (exfalso; omega)
                | exact hq20 j (by omega) (by omega)
              refine ML_266_165 hc (by omega) (by omega) (by omega) (by omega) hk76 (fun A77 y79 hIy78 hFhIy78 gy79 hr80 => ?_) 7 A17 0 hIf75 (fun k _ => rfl) (by decide +kernel) (by decide +kernel)
              refine pz_iinc (j := 9) (n := 1) (by decide +kernel) rfl rfl (by decide +kernel) (by omega) (by omega) (fun z81 hz81 => ?_)
              show pmE pg X pg_tyl pg_cl (d + 3) 266 195 [.ref 147, .int x1, .int x2, .int x3, .int x4, .int x5, .long l73, pm_dead, .int x8, .int z81, .long l73, pm_dead, .int y79] [] (md wc f75 A77) _
              refine pe_goto (off := (-174)) (t := 21) (by decide +kernel) (by decide) rfl ?_
              exact ih f75 A77 l73 z81 (.long l73) (.int y79) hIy78 (fun k n23 n24 => (upf_fr ef75 n23).trans ((upf_fr ef30 n24).trans ((hG k n23 n24)))) (fun k n158 n159 => ((hFhIy78 k n159)).trans (((hFq16 k n158)).trans ((upa_fr eA15 n158).trans ((upa_fr eA9 n158).trans ((hF k n158 n159)))))) (by omega) (by omega)
            · skip
              refine pe_lload (j := 10) (by decide +kernel) rfl ?_
              refine pe_lload (j := 6) (by decide +kernel) rfl ?_
              refine pw_lcmp (by decide +kernel) (fun z82 => ?_)
              refine pz_if_gt (off := 6) (t := 152) (by decide +kernel) (by decide) rfl rfl (fun h83 => ?_) (fun h83 => ?_)
              · skip
                refine pe_lload (j := 10) (by decide +kernel) rfl ?_
                refine pe_lstore (j := 6) (ls' := [.ref 147, .int x1, .int x2, .int x3, .int x4, .int x5, .long l73, pm_dead, .int x8, .int x9, .long l73, pm_dead, u12]) (by decide +kernel) (Nat.le_of_ble_eq_true rfl) rfl ?_
                refine pe_aload_n (j := 0) (by decide +kernel) rfl ?_
                refine pe_iload (j := 8) (by decide +kernel) rfl ?_
                refine mz_put23 (jj := 283) (by decide +kernel) (by decide +kernel) hc hIf30 (by omega) (by omega) (fun f84 ef84 hIf84 => ?_)
                refine pe_iconstv (n := 0) (v := 0) (by decide +kernel) (by decide +kernel) ?_
                refine pe_istore (j := 12) (ls' := [.ref 147, .int x1, .int x2, .int x3, .int x4, .int x5, .long l73, pm_dead, .int x8, .int x9, .long l73, pm_dead, .int 0]) (by decide +kernel) (Nat.le_of_ble_eq_true rfl) rfl ?_
                have hk85 : (∀ j : Int, (0) ≤ j → j < (x8.toInt) → 0 ≤ ((A17 158).getD j.toNat 0).toInt ∧ ((A17 158).getD j.toNat 0).toInt ≤ 8) := by
                  intro j h1 h2
                  first
                  | (exfalso; omega)
                  | exact hq20 j (by omega) (by omega)
                refine ML_266_165 hc (by omega) (by omega) (by omega) (by omega) hk85 (fun A86 y88 hIy87 hFhIy87 gy88 hr89 => ?_) 7 A17 0 hIf84 (fun k _ => rfl) (by decide +kernel) (by decide +kernel)
                refine pz_iinc (j := 9) (n := 1) (by decide +kernel) rfl rfl (by decide +kernel) (by omega) (by omega) (fun z90 hz90 => ?_)
                show pmE pg X pg_tyl pg_cl (d + 3) 266 195 [.ref 147, .int x1, .int x2, .int x3, .int x4, .int x5, .long l73, pm_dead, .int x8, .int z90, .long l73, pm_dead, .int y88] [] (md wc f84 A86) _
                refine pe_goto (off := (-174)) (t := 21) (by decide +kernel) (by decide) rfl ?_
                exact ih f84 A86 l73 z90 (.long l73) (.int y88) hIy87 (fun k n23 n24 => (upf_fr ef84 n23).trans ((upf_fr ef30 n24).trans ((hG k n23 n24)))) (fun k n158 n159 => ((hFhIy87 k n159)).trans (((hFq16 k n158)).trans ((upa_fr eA15 n158).trans ((upa_fr eA9 n158).trans ((hF k n158 n159)))))) (by omega) (by omega)
              · skip
                refine pe_goto (off := 43) (t := 192) (by decide +kernel) (by decide) rfl ?_
                refine pz_iinc (j := 9) (n := 1) (by decide +kernel) rfl rfl (by decide +kernel) (by omega) (by omega) (fun z91 hz91 => ?_)
                show pmE pg X pg_tyl pg_cl (d + 3) 266 195 [.ref 147, .int x1, .int x2, .int x3, .int x4, .int x5, .long j6, pm_dead, .int x8, .int z91, .long l73, pm_dead, u12] [] (md wc f30 A17) _
                refine pe_goto (off := (-174)) (t := 21) (by decide +kernel) (by decide) rfl ?_
                exact ih f30 A17 j6 z91 (.long l73) (u12) hIf30 (fun k n23 n24 => (upf_fr ef30 n24).trans ((hG k n23 n24))) (fun k n158 n159 => ((hFq16 k n158)).trans ((upa_fr eA15 n158).trans ((upa_fr eA9 n158).trans ((hF k n158 n159))))) (by omega) (by omega)
        · skip
          refine pe_goto (off := 103) (t := 192) (by decide +kernel) (by decide) rfl ?_
          refine pz_iinc (j := 9) (n := 1) (by decide +kernel) rfl rfl (by decide +kernel) (by omega) (by omega) (fun z92 hz92 => ?_)
          show pmE pg X pg_tyl pg_cl (d + 3) 266 195 [.ref 147, .int x1, .int x2, .int x3, .int x4, .int x5, .long j6, pm_dead, .int x8, .int z92, u10, pm_dead, u12] [] (md wc f A17) _
          refine pe_goto (off := (-174)) (t := 21) (by decide +kernel) (by decide) rfl ?_
          exact ih f A17 j6 z92 (u10) (u12) hIq16 (fun k n23 n24 => (hG k n23 n24)) (fun k n158 n159 => ((hFq16 k n158)).trans ((upa_fr eA15 n158).trans ((upa_fr eA9 n158).trans ((hF k n158 n159))))) (by omega) (by omega)
set_option maxRecDepth 100000 in
set_option maxHeartbeats 8000000 in
theorem ML_266_11 {X : pm_X} {d : Nat} {wc : pm_W} {Q : pm_R → Prop} {f0 : Nat → Int32} {A0 : Nat → List Int32} {x1 x2 x3 x4 x5 : Int32} (hc : wc.length = 147) (gx1 : (610 ≤ x1.toInt ∧ x1.toInt ≤ 742 ∧ (x1.toInt - 610) % 132 = 0)) (gx2 : (0 ≤ x2.toInt ∧ x2.toInt ≤ 6)) (k_204_0 : ∀ (f' : Nat → Int32) (A' : Nat → List Int32) (i6 : Int64) (y8 : Int32) (v9 : Value) (v10 : Value) (v12 : Value), MI f' A' → (∀ k : Nat, k ≠ 23 → k ≠ 24 → f' k = f0 k) → (∀ k : Nat, k ≠ 158 → k ≠ 159 → A' k = A0 k) → (7 ≤ y8.toInt ∧ y8.toInt ≤ 7) → pmE pg X pg_tyl pg_cl (d + 3) 266 204 [.ref 147, .int x1, .int x2, .int x3, .int x4, .int x5, .long i6, pm_dead, .int y8, v9, v10, pm_dead, v12] [] (md wc f' A') Q) : ∀ (m : Nat) (f : Nat → Int32) (A : Nat → List Int32) (j6 : Int64) (x8 : Int32) (u9 : Value) (u10 : Value) (u12 : Value), MI f A → (∀ k : Nat, k ≠ 23 → k ≠ 24 → f k = f0 k) → (∀ k : Nat, k ≠ 158 → k ≠ 159 → A k = A0 k) → (2 ≤ x8.toInt ∧ x8.toInt ≤ 7) → 7 - x8.toInt < (m : Int) → pmE pg X pg_tyl pg_cl (d + 3) 266 11 [.ref 147, .int x1, .int x2, .int x3, .int x4, .int x5, .long j6, pm_dead, .int x8, u9, u10, pm_dead, u12] [] (md wc f A) Q := by
  intro m
  induction m with
  | zero =>
    intro f A j6 x8 u9 u10 u12 hI hG hF gx8 hm
    exfalso
    have l0 := zi_lo x8
    have u0 := zi_hi x8
    omega
  | succ m ih =>
    intro f A j6 x8 u9 u10 u12 hI hG hF gx8 hm
    refine pe_iload (j := 8) (by decide +kernel) rfl ?_
    refine pe_bipushv (n := 7) (v := 7) (by decide +kernel) (by decide +kernel) ?_
    refine pz_icmp_ge (off := 189) (t := 204) (by decide +kernel) (by decide) rfl rfl kz_7 (fun h1 => ?_) (fun h1 => ?_)
    · skip
      exact k_204_0 f A j6 x8 (u9) (u10) (u12) hI (fun k n23 n24 => (hG k n23 n24)) (fun k n158 n159 => (hF k n158 n159)) (by omega)
    · skip
      refine pe_iconstv (n := 0) (v := 0) (by decide +kernel) (by decide +kernel) ?_
      refine pe_istore (j := 9) (ls' := [.ref 147, .int x1, .int x2, .int x3, .int x4, .int x5, .long j6, pm_dead, .int x8, .int 0, u10, pm_dead, u12]) (by decide +kernel) (Nat.le_of_ble_eq_true rfl) rfl ?_
      refine ML_266_21 hc (by omega) (by omega) (by omega) (fun f2 A3 l5 y6 u7 u8 hIy4 hGhIy4 hFhIy4 gy6 => ?_) 2147483648 f A j6 0 (u10) (u12) hI (fun k _ _ => rfl) (fun k _ _ => rfl) (by decide +kernel) (by decide +kernel)
      refine pz_iinc (j := 8) (n := 1) (by decide +kernel) rfl rfl (by decide +kernel) (by omega) (by omega) (fun z9 hz9 => ?_)
      show pmE pg X pg_tyl pg_cl (d + 3) 266 201 [.ref 147, .int x1, .int x2, .int x3, .int x4, .int x5, .long l5, pm_dead, .int z9, .int y6, u7, pm_dead, u8] [] (md wc f2 A3) _
      refine pe_goto (off := (-190)) (t := 11) (by decide +kernel) (by decide) rfl ?_
      exact ih f2 A3 l5 z9 (.int y6) (u7) (u8) hIy4 (fun k n23 n24 => ((hGhIy4 k n23 n24)).trans ((hG k n23 n24))) (fun k n158 n159 => ((hFhIy4 k n158 n159)).trans ((hF k n158 n159))) (by omega) (by omega)
set_option maxRecDepth 100000 in
set_option maxHeartbeats 8000000 in
theorem MM_266 {X : pm_X} {d : Nat} {wc : pm_W} {f : Nat → Int32} {A : Nat → List Int32} {x1 x2 x3 x4 x5 : Int32} (hc : wc.length = 147) (hI : MI f A) (gx1 : (610 ≤ x1.toInt ∧ x1.toInt ≤ 742 ∧ (x1.toInt - 610) % 132 = 0)) (gx2 : (0 ≤ x2.toInt ∧ x2.toInt ≤ 6)) : pmE pg X pg_tyl pg_cl (d + 3) 266 0 (pm_ent (pm_max pg 266) [.ref 147, .int x1, .int x2, .int x3, .int x4, .int x5]) [] (md wc f A) (fun q => ∃ (f' : Nat → Int32) (A' : Nat → List Int32) (r : Int32), q = (some (.int r), md wc f' A', 0, 0) ∧ MI f' A' ∧ (∀ k : Nat, k ≠ 23 → k ≠ 24 → f' k = f k) ∧ (∀ k : Nat, k ≠ 158 → k ≠ 159 → A' k = A k) ∧ ((r = 0 ∧ True) ∨ (r = 1 ∧ True))) := by
  show pmE pg X pg_tyl pg_cl (d + 3) 266 0 [.ref 147, .int x1, .int x2, .int x3, .int x4, .int x5, pm_dead, pm_dead, pm_dead, pm_dead, pm_dead, pm_dead, pm_dead] [] (md wc f A) _
  refine pe_aload_n (j := 0) (by decide +kernel) rfl ?_
  refine pe_iconstv (n := 0) (v := 0) (by decide +kernel) (by decide +kernel) ?_
  refine mz_put23 (jj := 283) (by decide +kernel) (by decide +kernel) hc hI (by decide +kernel) (by decide +kernel) (fun f1 ef1 hIf1 => ?_)
  refine pw_lconst (n := 0) (by decide +kernel) (fun l2 => ?_)
  refine pe_lstore (j := 6) (ls' := [.ref 147, .int x1, .int x2, .int x3, .int x4, .int x5, .long l2, pm_dead, pm_dead, pm_dead, pm_dead, pm_dead, pm_dead]) (by decide +kernel) (Nat.le_of_ble_eq_true rfl) rfl ?_
  refine pe_iconstv (n := 2) (v := 2) (by decide +kernel) (by decide +kernel) ?_
  refine pe_istore (j := 8) (ls' := [.ref 147, .int x1, .int x2, .int x3, .int x4, .int x5, .long l2, pm_dead, .int 2, pm_dead, pm_dead, pm_dead, pm_dead]) (by decide +kernel) (Nat.le_of_ble_eq_true rfl) rfl ?_
  refine ML_266_11 hc (by omega) (by omega) (fun f3 A4 l6 y7 u8 u9 u10 hIy5 hGhIy5 hFhIy5 gy7 => ?_) 6 f1 A l2 2 (pm_dead) (pm_dead) (pm_dead) hIf1 (fun k _ _ => rfl) (fun k _ _ => rfl) (by decide +kernel) (by decide +kernel)
  refine pe_aload_n (j := 0) (by decide +kernel) rfl ?_
  refine pe_get (j := 283) (ci := 12) (n := 23) (by decide +kernel) (by decide +kernel) (md_o hc) rfl ?_
  have hr_23_f3 := hIy5.1 23
  simp only [MF] at hr_23_f3
  refine pz_if_le (off := 7) (t := 215) (by decide +kernel) (by decide) rfl rfl (fun h11 => ?_) (fun h11 => ?_)
  · skip
    refine pe_iconstv (n := 0) (v := 0) (by decide +kernel) (by decide +kernel) ?_
    exact pe_iret (by decide +kernel) rfl rfl ⟨f3, A4, 0, rfl, hIy5, (fun k n23 n24 => ((hGhIy5 k n23 n24)).trans (upf_fr ef1 n23)), (fun k n158 n159 => (hFhIy5 k n158 n159)), Or.inl ⟨rfl, trivial⟩⟩
  · skip
    refine pe_iconstv (n := 1) (v := 1) (by decide +kernel) (by decide +kernel) ?_
    refine pe_goto (off := 4) (t := 216) (by decide +kernel) (by decide) rfl ?_
    exact pe_iret (by decide +kernel) rfl rfl ⟨f3, A4, 1, rfl, hIy5, (fun k n23 n24 => ((hGhIy5 k n23 n24)).trans (upf_fr ef1 n23)), (fun k n158 n159 => (hFhIy5 k n158 n159)), Or.inr (⟨rfl, trivial⟩)⟩
