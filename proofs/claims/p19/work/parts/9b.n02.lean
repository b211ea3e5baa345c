set_option maxRecDepth 100000 in
set_option maxHeartbeats 8000000 in
theorem NL_255_31 {X : pm_X} {d : Nat} {wc : pm_W} {Q : pm_R → Prop} {f : Nat → Int32} {A0 : Nat → List Int32} {x1 : Int32} (hc : wc.length = 147) (gx1 : (610 ≤ x1.toInt ∧ x1.toInt ≤ 742 ∧ (x1.toInt - 610) % 132 = 0)) (k_48_0 : ∀ (A' : Nat → List Int32) (y2 : Int32), MI f A' → (∀ k : Nat, k ≠ 152 → k ≠ 154 → k ≠ 155 → A' k = A0 k) → N0 (A' 152) → BA (A' 152) → pmE pg X pg_tyl pg_cl (d + 2) 255 48 [.ref 147, .int x1, .int y2] [] (md wc f A') Q) : ∀ (m : Nat) (A : Nat → List Int32) (x2 : Int32), MI f A → (∀ k : Nat, k ≠ 152 → k ≠ 154 → k ≠ 155 → A k = A0 k) → N0 (A 152) → BA (A 152) → (sumT (A 152) 81).toNat < m → pmE pg X pg_tyl pg_cl (d + 2) 255 31 [.ref 147, .int x1, .int x2] [] (md wc f A) Q := by
  intro m
  induction m with
  | zero =>
    intro A x2 hI hF hpi0 hpi1 hm
    exfalso
    exact absurd hm (Nat.not_lt_zero _)
  | succ m ih =>
    intro A x2 hI hF hpi0 hpi1 hm
    refine pe_aload_n (j := 0) (by decide +kernel) rfl ?_
    refine pz_callV (j := 244) (mj := 252) (by decide +kernel) (cll_V (args := []) (n := 0) (by decide +kernel) rfl rfl (md_o hc) (by decide +kernel) (Nat.le_of_ble_eq_true rfl) (Nat.le_of_ble_eq_true rfl)) (NM_252 hc hI hpi0) (fun q1a q1b q1c q1d hqq1 => ?_)
    obtain ⟨rq1, eq1, kq1⟩ := hqq1
    cases eq1
    refine ⟨rfl, rfl, ?_⟩
    obtain ⟨kfq1, kq1⟩ := kq1
    obtain ⟨hp2, kq1⟩ := kq1
    show pmE pg X pg_tyl pg_cl (d + 2) 255 35 [.ref 147, .int x1, .int x2] [.int rq1] (md wc f A) _
    refine pz_if_le (off := 13) (t := 48) (by decide +kernel) (by decide) rfl rfl (fun h3 => ?_) (fun h3 => ?_)
    · skip
      exact k_48_0 A x2 hI (fun k n152 n154 n155 => (hF k n152 n154 n155)) hpi0 hpi1
    · skip
      refine pe_aload_n (j := 0) (by decide +kernel) rfl ?_
      refine pz_callV (j := 248) (mj := 256) (by decide +kernel) (cll_V (args := []) (n := 0) (by decide +kernel) rfl rfl (md_o hc) (by decide +kernel) (Nat.le_of_ble_eq_true rfl) (Nat.le_of_ble_eq_true rfl)) (NM_256 hc hI hpi0 hpi1 (by rw [← hp2]; omega)) (fun q4a q4b q4c q4d hqq4 => ?_)
      obtain ⟨A5, eq4, hIq4, hFq4, kq4⟩ := hqq4
      cases eq4
      refine ⟨rfl, rfl, ?_⟩
      obtain ⟨hp6, hp7, hp8, kq4⟩ := kq4
      show pmE pg X pg_tyl pg_cl (d + 2) 255 42 [.ref 147, .int x1, .int x2] [] (md wc f A5) _
      refine pw_iinc (j := 2) (n := 1) (by decide +kernel) rfl (fun z9 => ?_)
      show pmE pg X pg_tyl pg_cl (d + 2) 255 45 [.ref 147, .int x1, .int z9] [] (md wc f A5) _
      refine pe_goto (off := (-14)) (t := 31) (by decide +kernel) (by decide) rfl ?_
      exact ih A5 z9 hIq4 (fun k n152 n154 n155 => ((hFq4 k n152 n154 n155)).trans ((hF k n152 n154 n155))) hp6 hp7 (by have h1 := hp8; have h2 := sumT_nn hpi0 81 (by decide); have h3 := hp2; omega)
set_option maxRecDepth 100000 in
set_option maxHeartbeats 8000000 in
theorem NL_255_2 {X : pm_X} {d : Nat} {wc : pm_W} {Q : pm_R → Prop} {f : Nat → Int32} {A : Nat → List Int32} {x1 : Int32} (hc : wc.length = 147) (hI : MI f A) (gx1 : (610 ≤ x1.toInt ∧ x1.toInt ≤ 742 ∧ (x1.toInt - 610) % 132 = 0)) (hpk0 : N0 (A 152)) (k_29_0 : ∀ (y2 : Int32), (0 ≤ y2.toInt ∧ y2.toInt ≤ 9) → (∀ q : Int, 0 ≤ q → q < y2.toInt → rowS (A 152) q (fr (A 148) x1.toInt).toNat = colS (A 152) q (fr (A 148) x1.toInt).toNat) → fr (A 148) x1.toInt ≤ y2.toInt → pmE pg X pg_tyl pg_cl (d + 2) 255 29 [.ref 147, .int x1, .int y2] [] (md wc f A) Q) (kr_m1 : Q (some (.int (-1)), md wc f A, 0, 0)) : ∀ (m : Nat) (x2 : Int32), (0 ≤ x2.toInt ∧ x2.toInt ≤ 9) → (∀ q : Int, 0 ≤ q → q < x2.toInt → rowS (A 152) q (fr (A 148) x1.toInt).toNat = colS (A 152) q (fr (A 148) x1.toInt).toNat) → 9 - x2.toInt < (m : Int) → pmE pg X pg_tyl pg_cl (d + 2) 255 2 [.ref 147, .int x1, .int x2] [] (md wc f A) Q := by
  intro m
  induction m with
  | zero =>
    intro x2 gx2 hpi0 hm
    exfalso
    have l0 := zi_lo x2
    have u0 := zi_hi x2
    omega
  | succ m ih =>
    intro x2 gx2 hpi0 hm
    refine pe_iload_n (j := 2) (by decide +kernel) rfl ?_
    refine pe_aload_n (j := 0) (by decide +kernel) rfl ?_
    refine pe_get (j := 7) (ci := 12) (n := 0) (by decide +kernel) (by decide +kernel) (md_o hc) rfl ?_
    refine pe_iload_n (j := 1) (by decide +kernel) rfl ?_
    refine pz_iald (by decide +kernel) (md_a148 hc) (mlen_148 hI) rfl (by omega) (by omega) (fun v1 ev1 => ?_)
    have rv1 : 0 ≤ v1.toInt ∧ v1.toInt ≤ 9 := MT_people (mt_148 hI ev1 (by omega)) (by omega)
    refine pz_icmp_ge (off := 20) (t := 29) (by decide +kernel) (by decide) rfl rfl rfl (fun h2 => ?_) (fun h2 => ?_)
    · skip
      exact k_29_0 x2 (by omega) hpi0 (by rw [(show fr (A 148) (x1.toInt) = v1.toInt from congrArg Int32.toInt ev1.symm)]; omega)
    · skip
      refine pe_aload_n (j := 0) (by decide +kernel) rfl ?_
      refine pe_iload_n (j := 1) (by decide +kernel) rfl ?_
      refine pe_iload_n (j := 2) (by decide +kernel) rfl ?_
      refine pz_callV (j := 211) (mj := 242) (by decide +kernel) (cll_V (args := [.int x2, .int x1]) (n := 2) (by decide +kernel) rfl rfl (md_o hc) (by decide +kernel) (Nat.le_of_ble_eq_true rfl) (Nat.le_of_ble_eq_true rfl)) (NM_242 hc hI (by omega) (by omega) hpk0) (fun q3a q3b q3c q3d hqq3 => ?_)
      obtain ⟨rq3, eq3, kq3⟩ := hqq3
      cases eq3
      refine ⟨rfl, rfl, ?_⟩
      obtain ⟨kfq3, kq3⟩ := kq3
      obtain ⟨hp4, kq3⟩ := kq3
      show pmE pg X pg_tyl pg_cl (d + 2) 255 18 [.ref 147, .int x1, .int x2] [.int rq3] (md wc f A) _
      refine pz_if_eq (off := 5) (t := 23) (by decide +kernel) (by decide) rfl rfl (fun h5 => ?_) (fun h5 => ?_)
      · skip
        refine pz_iinc (j := 2) (n := 1) (by decide +kernel) rfl rfl (by decide +kernel) (by omega) (by omega) (fun z6 hz6 => ?_)
        show pmE pg X pg_tyl pg_cl (d + 2) 255 26 [.ref 147, .int x1, .int z6] [] (md wc f A) _
        refine pe_goto (off := (-24)) (t := 2) (by decide +kernel) (by decide) rfl ?_
        exact ih z6 (by omega) (fun q q0 q1 => (Classical.em (q = x2.toInt)).elim (fun e => by rw [e]; omega) (fun e => hpi0 q q0 (by omega))) (by omega)
      · skip
        refine pe_iconstv (n := (-1)) (v := (-1)) (by decide +kernel) (by decide +kernel) ?_
        exact pe_iret (by decide +kernel) rfl rfl kr_m1
set_option maxRecDepth 100000 in
set_option maxHeartbeats 8000000 in
theorem NM_255 {X : pm_X} {d : Nat} {wc : pm_W} {f : Nat → Int32} {A : Nat → List Int32} {x1 : Int32} (hc : wc.length = 147) (hI : MI f A) (gx1 : (610 ≤ x1.toInt ∧ x1.toInt ≤ 742 ∧ (x1.toInt - 610) % 132 = 0)) (hpp0 : DF (A 152) (fr (A 148) x1.toInt) 17820) : pmE pg X pg_tyl pg_cl (d + 2) 255 0 (pm_ent (pm_max pg 255) [.ref 147, .int x1]) [] (md wc f A) (fun q => ∃ (A' : Nat → List Int32) (r : Int32), q = (some (.int r), md wc f A', 0, 0) ∧ MI f A' ∧ (∀ k : Nat, k ≠ 152 → k ≠ 154 → k ≠ 155 → A' k = A k) ∧ ((True ∧ True))) := by
  show pmE pg X pg_tyl pg_cl (d + 2) 255 0 [.ref 147, .int x1, pm_dead] [] (md wc f A) _
  refine pe_iconstv (n := 0) (v := 0) (by decide +kernel) (by decide +kernel) ?_
  refine pe_istore_n (j := 2) (ls' := [.ref 147, .int x1, .int 0]) (by decide +kernel) (Nat.le_of_ble_eq_true rfl) rfl ?_
  refine NL_255_2 hc hI (by omega) (DF_n0 hpp0 (by decide)) (fun y1 gy1 hp2 hp3 => ?_) (⟨A, (-1), rfl, hI, (fun k n152 n154 n155 => rfl), ⟨trivial, trivial⟩⟩) 10 0 (by decide +kernel) (fun q q0 q1 => absurd q1 (by rw [kz_0]; omega)) (by decide +kernel)
  have hba4 : BA (A 152) := BA_of hpp0 (mpeo hI (by omega)).1 (mpeo hI (by omega)).2 (fun q q0 q1 => hp2 q q0 (by omega))
  refine pe_iconstv (n := 0) (v := 0) (by decide +kernel) (by decide +kernel) ?_
  refine pe_istore_n (j := 2) (ls' := [.ref 147, .int x1, .int 0]) (by decide +kernel) (Nat.le_of_ble_eq_true rfl) rfl ?_
  refine NL_255_31 hc (by omega) (fun A5 y6 hIy7 hFA5 hp8 hp9 => ?_) ((sumT (A 152) 81).toNat + 1) A 0 hI (fun k _ _ _ => rfl) (DF_n0 hpp0 (by decide)) hba4 (Nat.lt_succ_self _)
  refine pe_iload_n (j := 2) (by decide +kernel) rfl ?_
  exact pe_iret (by decide +kernel) rfl rfl ⟨A5, y6, rfl, hIy7, (fun k n152 n154 n155 => (hFA5 k n152 n154 n155)), ⟨trivial, trivial⟩⟩
set_option maxRecDepth 100000 in
set_option maxHeartbeats 8000000 in
theorem NM_250 {X : pm_X} {d : Nat} {wc : pm_W} {f : Nat → Int32} {A : Nat → List Int32} {x1 x2 x3 x4 : Int32} (hc : wc.length = 147) (hI : MI f A) : pmE pg X pg_tyl pg_cl (d + 7) 250 0 (pm_ent (pm_max pg 250) [.ref 147, .int x1, .int x2, .int x3, .int x4]) [] (md wc f A) (fun q => ∃ (f' : Nat → Int32) (A' : Nat → List Int32) (r : Int32), q = (some (.int r), md wc f' A', 0, 0) ∧ MI f' A' ∧ (∀ k : Nat, k ≠ 14 → k ≠ 15 → k ≠ 16 → f' k = f k) ∧ (∀ k : Nat, k ≠ 152 → k ≠ 153 → k ≠ 154 → k ≠ 155 → k ≠ 156 → k ≠ 157 → A' k = A k) ∧ ((True ∧ True))) := by
  show pmE pg X pg_tyl pg_cl (d + 7) 250 0 [.ref 147, .int x1, .int x2, .int x3, .int x4, pm_dead] [] (md wc f A) _
  refine pe_aload_n (j := 0) (by decide +kernel) rfl ?_
  refine pe_iload_n (j := 1) (by decide +kernel) rfl ?_
  refine pe_iload_n (j := 2) (by decide +kernel) rfl ?_
  refine pe_iload_n (j := 3) (by decide +kernel) rfl ?_
  refine pz_callV (j := 232) (mj := 246) (by decide +kernel) (cll_V (args := [.int x3, .int x2, .int x1]) (n := 3) (by decide +kernel) rfl rfl (md_o hc) (by decide +kernel) (Nat.le_of_ble_eq_true rfl) (Nat.le_of_ble_eq_true rfl)) (NM_246 hc hI) (fun q1a q1b q1c q1d hqq1 => ?_)
  obtain ⟨f2, A3, rq1, eq1, hIq1, hGq1, hFq1, kq1⟩ := hqq1
  cases eq1
  refine ⟨rfl, rfl, ?_⟩
  rcases kq1 with kq1 | kq1
  · skip
    obtain ⟨erq1, kq1⟩ := kq1
    subst erq1
    show pmE pg X pg_tyl pg_cl (d + 7) 250 7 [.ref 147, .int x1, .int x2, .int x3, .int x4, pm_dead] [.int 0] (md wc f2 A3) _
    refine pz_if_ne (off := 6) (t := 13) (by decide +kernel) (by decide) rfl kz_0 (fun h4 => by omega) (fun h4 => ?_)
    refine pe_bipushv (n := (-2)) (v := (-2)) (by decide +kernel) (by decide +kernel) ?_
    exact pe_iret (by decide +kernel) rfl rfl ⟨f2, A3, (-2), rfl, hIq1, (fun k n14 n15 n16 => (hGq1 k n14 n15 n16)), (fun k n152 n153 n154 n155 n156 n157 => (hFq1 k n152 n153)), ⟨trivial, trivial⟩⟩
  · skip
    obtain ⟨erq1, kq1⟩ := kq1
    subst erq1
    obtain ⟨hp5, kq1⟩ := kq1
    show pmE pg X pg_tyl pg_cl (d + 7) 250 7 [.ref 147, .int x1, .int x2, .int x3, .int x4, pm_dead] [.int 1] (md wc f2 A3) _
    refine pz_if_ne (off := 6) (t := 13) (by decide +kernel) (by decide) rfl kz_1 (fun h6 => ?_) (fun h6 => by omega)
    refine pe_iconstv (n := 0) (v := 0) (by decide +kernel) (by decide +kernel) ?_
    refine pe_iload_n (j := 1) (by decide +kernel) rfl ?_
    refine pi_S (j := 163) (mj := 217) (by decide +kernel) (by decide +kernel) rfl ?_
    show pmE pg X pg_tyl pg_cl (d + 6) 217 0 [.int 0, .int x1] [] (md wc f2 A3) _
    refine pe_iload_n (j := 0) (by decide +kernel) rfl ?_
    refine pz_if_ne (off := 15) (t := 16) (by decide +kernel) (by decide) rfl kz_0 (fun h7 => by omega) (fun h7 => ?_)
    refine pe_sipushv (n := 610) (v := 610) (by decide +kernel) (by decide +kernel) ?_
    refine pe_sipushv (n := 132) (v := 132) (by decide +kernel) (by decide +kernel) ?_
    refine pe_iload_n (j := 1) (by decide +kernel) rfl ?_
    refine pz_mul (by decide +kernel) kz_132 rfl (by omega) (by omega) (fun z8 hz8 => ?_)
    refine pz_add (by decide +kernel) kz_610 hz8 (by omega) (by omega) (fun z9 hz9 => ?_)
    clear hz8
    refine pe_goto (off := 12) (t := 25) (by decide +kernel) (by decide) rfl ?_
    refine pe_iret (by decide +kernel) rfl rfl ⟨rfl, rfl, ?_⟩
    show pmE pg X pg_tyl pg_cl (d + 7) 250 18 [.ref 147, .int x1, .int x2, .int x3, .int x4, pm_dead] [.int z9] (md wc f2 A3) _
    refine pe_istore (j := 5) (ls' := [.ref 147, .int x1, .int x2, .int x3, .int x4, .int z9]) (by decide +kernel) (Nat.le_of_ble_eq_true rfl) rfl ?_
    refine pe_iload (j := 4) (by decide +kernel) rfl ?_
    by_cases h10 : x4.toInt = 0
    · skip
      refine pe_tableIn (df := 123) (lo := 0) (hi := 10) (off := 58) (offs := #[58, 63, 68, 73, 78, 85, 90, 97, 102, 109, 116]) (t := 80) (by decide +kernel) (by omega) (by rw [h10]; rfl) (by decide) rfl ?_
      refine pe_aload_n (j := 0) (by decide +kernel) rfl ?_
      refine pe_get (j := 178) (ci := 12) (n := 15) (by decide +kernel) (by decide +kernel) (md_o hc) rfl ?_
      exact pe_iret (by decide +kernel) rfl rfl ⟨f2, A3, (f2 15), rfl, hIq1, (fun k n14 n15 n16 => (hGq1 k n14 n15 n16)), (fun k n152 n153 n154 n155 n156 n157 => (hFq1 k n152 n153)), ⟨trivial, trivial⟩⟩
    · skip
      by_cases h11 : x4.toInt = 1
      · skip
        refine pe_tableIn (df := 123) (lo := 0) (hi := 10) (off := 63) (offs := #[58, 63, 68, 73, 78, 85, 90, 97, 102, 109, 116]) (t := 85) (by decide +kernel) (by omega) (by rw [h11]; rfl) (by decide) rfl ?_
        refine pe_aload_n (j := 0) (by decide +kernel) rfl ?_
        refine pe_get (j := 175) (ci := 12) (n := 14) (by decide +kernel) (by decide +kernel) (md_o hc) rfl ?_
        have hr_f2_14 := mf_14 hIq1
        exact pe_iret (by decide +kernel) rfl rfl ⟨f2, A3, (f2 14), rfl, hIq1, (fun k n14 n15 n16 => (hGq1 k n14 n15 n16)), (fun k n152 n153 n154 n155 n156 n157 => (hFq1 k n152 n153)), ⟨trivial, trivial⟩⟩
      · skip
        by_cases h12 : x4.toInt = 2
        · skip
          refine pe_tableIn (df := 123) (lo := 0) (hi := 10) (off := 68) (offs := #[58, 63, 68, 73, 78, 85, 90, 97, 102, 109, 116]) (t := 90) (by decide +kernel) (by omega) (by rw [h12]; rfl) (by decide) rfl ?_
          refine pe_aload_n (j := 0) (by decide +kernel) rfl ?_
          refine pz_callV (j := 257) (mj := 251) (by decide +kernel) (cll_V (args := []) (n := 0) (by decide +kernel) rfl rfl (md_o hc) (by decide +kernel) (Nat.le_of_ble_eq_true rfl) (Nat.le_of_ble_eq_true rfl)) (MM_251 hc hIq1) (fun q13a q13b q13c q13d hqq13 => ?_)
          obtain ⟨rq13, eq13, kq13⟩ := hqq13
          cases eq13
          refine ⟨rfl, rfl, ?_⟩
          show pmE pg X pg_tyl pg_cl (d + 7) 250 94 [.ref 147, .int x1, .int x2, .int x3, .int x4, .int z9] [.int rq13] (md wc f2 A3) _
          exact pe_iret (by decide +kernel) rfl rfl ⟨f2, A3, rq13, rfl, hIq1, (fun k n14 n15 n16 => (hGq1 k n14 n15 n16)), (fun k n152 n153 n154 n155 n156 n157 => (hFq1 k n152 n153)), ⟨trivial, trivial⟩⟩
        · skip
          by_cases h14 : x4.toInt = 3
          · skip
            refine pe_tableIn (df := 123) (lo := 0) (hi := 10) (off := 73) (offs := #[58, 63, 68, 73, 78, 85, 90, 97, 102, 109, 116]) (t := 95) (by decide +kernel) (by omega) (by rw [h14]; rfl) (by decide) rfl ?_
            refine pe_aload_n (j := 0) (by decide +kernel) rfl ?_
            refine pz_callV (j := 244) (mj := 252) (by decide +kernel) (cll_V (args := []) (n := 0) (by decide +kernel) rfl rfl (md_o hc) (by decide +kernel) (Nat.le_of_ble_eq_true rfl) (Nat.le_of_ble_eq_true rfl)) (NM_252 hc hIq1 (DF_n0 hp5 (by decide))) (fun q15a q15b q15c q15d hqq15 => ?_)
            obtain ⟨rq15, eq15, kq15⟩ := hqq15
            cases eq15
            refine ⟨rfl, rfl, ?_⟩
            obtain ⟨kfq15, kq15⟩ := kq15
            obtain ⟨hp16, kq15⟩ := kq15
            show pmE pg X pg_tyl pg_cl (d + 7) 250 99 [.ref 147, .int x1, .int x2, .int x3, .int x4, .int z9] [.int rq15] (md wc f2 A3) _
            exact pe_iret (by decide +kernel) rfl rfl ⟨f2, A3, rq15, rfl, hIq1, (fun k n14 n15 n16 => (hGq1 k n14 n15 n16)), (fun k n152 n153 n154 n155 n156 n157 => (hFq1 k n152 n153)), ⟨trivial, trivial⟩⟩
          · skip
            by_cases h17 : x4.toInt = 4
            · skip
              refine pe_tableIn (df := 123) (lo := 0) (hi := 10) (off := 78) (offs := #[58, 63, 68, 73, 78, 85, 90, 97, 102, 109, 116]) (t := 100) (by decide +kernel) (by omega) (by rw [h17]; rfl) (by decide) rfl ?_
              refine pe_aload_n (j := 0) (by decide +kernel) rfl ?_
              refine pe_iload (j := 5) (by decide +kernel) rfl ?_
              refine pz_callV (j := 260) (mj := 253) (by decide +kernel) (cll_V (args := [.int z9]) (n := 1) (by decide +kernel) rfl rfl (md_o hc) (by decide +kernel) (Nat.le_of_ble_eq_true rfl) (Nat.le_of_ble_eq_true rfl)) (MM_253 hc hIq1 (by omega)) (fun q18a q18b q18c q18d hqq18 => ?_)
              obtain ⟨rq18, eq18, kq18⟩ := hqq18
              cases eq18
              refine ⟨rfl, rfl, ?_⟩
              show pmE pg X pg_tyl pg_cl (d + 7) 250 106 [.ref 147, .int x1, .int x2, .int x3, .int x4, .int z9] [.int rq18] (md wc f2 A3) _
              exact pe_iret (by decide +kernel) rfl rfl ⟨f2, A3, rq18, rfl, hIq1, (fun k n14 n15 n16 => (hGq1 k n14 n15 n16)), (fun k n152 n153 n154 n155 n156 n157 => (hFq1 k n152 n153)), ⟨trivial, trivial⟩⟩
            · skip
              by_cases h19 : x4.toInt = 5
              · skip
                refine pe_tableIn (df := 123) (lo := 0) (hi := 10) (off := 85) (offs := #[58, 63, 68, 73, 78, 85, 90, 97, 102, 109, 116]) (t := 107) (by decide +kernel) (by omega) (by rw [h19]; rfl) (by decide) rfl ?_
                refine pe_aload_n (j := 0) (by decide +kernel) rfl ?_
                refine pz_callV (j := 263) (mj := 254) (by decide +kernel) (cll_V (args := []) (n := 0) (by decide +kernel) rfl rfl (md_o hc) (by decide +kernel) (Nat.le_of_ble_eq_true rfl) (Nat.le_of_ble_eq_true rfl)) (MM_254 hc hIq1) (fun q20a q20b q20c q20d hqq20 => ?_)
                obtain ⟨rq20, eq20, kq20⟩ := hqq20
                cases eq20
                refine ⟨rfl, rfl, ?_⟩
                show pmE pg X pg_tyl pg_cl (d + 7) 250 111 [.ref 147, .int x1, .int x2, .int x3, .int x4, .int z9] [.int rq20] (md wc f2 A3) _
                exact pe_iret (by decide +kernel) rfl rfl ⟨f2, A3, rq20, rfl, hIq1, (fun k n14 n15 n16 => (hGq1 k n14 n15 n16)), (fun k n152 n153 n154 n155 n156 n157 => (hFq1 k n152 n153)), ⟨trivial, trivial⟩⟩
              · skip
                by_cases h21 : x4.toInt = 6
                · skip
                  refine pe_tableIn (df := 123) (lo := 0) (hi := 10) (off := 90) (offs := #[58, 63, 68, 73, 78, 85, 90, 97, 102, 109, 116]) (t := 112) (by decide +kernel) (by omega) (by rw [h21]; rfl) (by decide) rfl ?_
                  refine pe_aload_n (j := 0) (by decide +kernel) rfl ?_
                  refine pe_iload (j := 5) (by decide +kernel) rfl ?_
                  refine pz_callV (j := 266) (mj := 255) (by decide +kernel) (cll_V (args := [.int z9]) (n := 1) (by decide +kernel) rfl rfl (md_o hc) (by decide +kernel) (Nat.le_of_ble_eq_true rfl) (Nat.le_of_ble_eq_true rfl)) (NM_255 hc hIq1 (by omega) (by have h := hp5; rw [show 610 + 132 * x1.toInt = z9.toInt by omega, ← show A3 148 = A 148 from (hFq1 148 (by decide) (by decide))] at h; exact h)) (fun q22a q22b q22c q22d hqq22 => ?_)
                  obtain ⟨A23, rq22, eq22, hIq22, hFq22, kq22⟩ := hqq22
                  cases eq22
                  refine ⟨rfl, rfl, ?_⟩
                  show pmE pg X pg_tyl pg_cl (d + 7) 250 118 [.ref 147, .int x1, .int x2, .int x3, .int x4, .int z9] [.int rq22] (md wc f2 A23) _
                  exact pe_iret (by decide +kernel) rfl rfl ⟨f2, A23, rq22, rfl, hIq22, (fun k n14 n15 n16 => (hGq1 k n14 n15 n16)), (fun k n152 n153 n154 n155 n156 n157 => ((hFq22 k n152 n154 n155)).trans ((hFq1 k n152 n153))), ⟨trivial, trivial⟩⟩
                · skip
                  by_cases h24 : x4.toInt = 7
                  · skip
                    refine pe_tableIn (df := 123) (lo := 0) (hi := 10) (off := 97) (offs := #[58, 63, 68, 73, 78, 85, 90, 97, 102, 109, 116]) (t := 119) (by decide +kernel) (by omega) (by rw [h24]; rfl) (by decide) rfl ?_
                    refine pe_aload_n (j := 0) (by decide +kernel) rfl ?_
                    refine pz_callV (j := 269) (mj := 258) (by decide +kernel) (cll_V (args := []) (n := 0) (by decide +kernel) rfl rfl (md_o hc) (by decide +kernel) (Nat.le_of_ble_eq_true rfl) (Nat.le_of_ble_eq_true rfl)) (MM_258 hc hIq1) (fun q25a q25b q25c q25d hqq25 => ?_)
                    obtain ⟨rq25, eq25, kq25⟩ := hqq25
                    cases eq25
                    refine ⟨rfl, rfl, ?_⟩
                    show pmE pg X pg_tyl pg_cl (d + 7) 250 123 [.ref 147, .int x1, .int x2, .int x3, .int x4, .int z9] [.int rq25] (md wc f2 A3) _
                    exact pe_iret (by decide +kernel) rfl rfl ⟨f2, A3, rq25, rfl, hIq1, (fun k n14 n15 n16 => (hGq1 k n14 n15 n16)), (fun k n152 n153 n154 n155 n156 n157 => (hFq1 k n152 n153)), ⟨trivial, trivial⟩⟩
                  · skip
                    by_cases h26 : x4.toInt = 8
                    · skip
                      refine pe_tableIn (df := 123) (lo := 0) (hi := 10) (off := 102) (offs := #[58, 63, 68, 73, 78, 85, 90, 97, 102, 109, 116]) (t := 124) (by decide +kernel) (by omega) (by rw [h26]; rfl) (by decide) rfl ?_
                      refine pe_aload_n (j := 0) (by decide +kernel) rfl ?_
                      refine pe_iload (j := 5) (by decide +kernel) rfl ?_
                      refine pz_callV (j := 254) (mj := 259) (by decide +kernel) (cll_V (args := [.int z9]) (n := 1) (by decide +kernel) rfl rfl (md_o hc) (by decide +kernel) (Nat.le_of_ble_eq_true rfl) (Nat.le_of_ble_eq_true rfl)) (MM_259 hc hIq1 (by omega)) (fun q27a q27b q27c q27d hqq27 => ?_)
                      obtain ⟨rq27, eq27, kq27⟩ := hqq27
                      cases eq27
                      refine ⟨rfl, rfl, ?_⟩
                      show pmE pg X pg_tyl pg_cl (d + 7) 250 130 [.ref 147, .int x1, .int x2, .int x3, .int x4, .int z9] [.int rq27] (md wc f2 A3) _
                      exact pe_iret (by decide +kernel) rfl rfl ⟨f2, A3, rq27, rfl, hIq1, (fun k n14 n15 n16 => (hGq1 k n14 n15 n16)), (fun k n152 n153 n154 n155 n156 n157 => (hFq1 k n152 n153)), ⟨trivial, trivial⟩⟩
                    · skip
                      by_cases h28 : x4.toInt = 9
                      · skip
                        refine pe_tableIn (df := 123) (lo := 0) (hi := 10) (off := 109) (offs := #[58, 63, 68, 73, 78, 85, 90, 97, 102, 109, 116]) (t := 131) (by decide +kernel) (by omega) (by rw [h28]; rfl) (by decide) rfl ?_
                        refine pe_aload_n (j := 0) (by decide +kernel) rfl ?_
                        refine pe_iload (j := 5) (by decide +kernel) rfl ?_
                        refine pz_callV (j := 272) (mj := 261) (by decide +kernel) (cll_V (args := [.int z9]) (n := 1) (by decide +kernel) rfl rfl (md_o hc) (by decide +kernel) (Nat.le_of_ble_eq_true rfl) (Nat.le_of_ble_eq_true rfl)) (MM_261 hc hIq1 (by omega)) (fun q29a q29b q29c q29d hqq29 => ?_)
                        obtain ⟨rq29, eq29, kq29⟩ := hqq29
                        cases eq29
                        refine ⟨rfl, rfl, ?_⟩
                        show pmE pg X pg_tyl pg_cl (d + 7) 250 137 [.ref 147, .int x1, .int x2, .int x3, .int x4, .int z9] [.int rq29] (md wc f2 A3) _
                        exact pe_iret (by decide +kernel) rfl rfl ⟨f2, A3, rq29, rfl, hIq1, (fun k n14 n15 n16 => (hGq1 k n14 n15 n16)), (fun k n152 n153 n154 n155 n156 n157 => (hFq1 k n152 n153)), ⟨trivial, trivial⟩⟩
                      · skip
                        by_cases h30 : x4.toInt = 10
                        · skip
                          refine pe_tableIn (df := 123) (lo := 0) (hi := 10) (off := 116) (offs := #[58, 63, 68, 73, 78, 85, 90, 97, 102, 109, 116]) (t := 138) (by decide +kernel) (by omega) (by rw [h30]; rfl) (by decide) rfl ?_
                          refine pe_aload_n (j := 0) (by decide +kernel) rfl ?_
                          refine pe_iload (j := 5) (by decide +kernel) rfl ?_
                          refine pz_callV (j := 275) (mj := 262) (by decide +kernel) (cll_V (args := [.int z9]) (n := 1) (by decide +kernel) rfl rfl (md_o hc) (by decide +kernel) (Nat.le_of_ble_eq_true rfl) (Nat.le_of_ble_eq_true rfl)) (MM_262 hc hIq1 (by omega)) (fun q31a q31b q31c q31d hqq31 => ?_)
                          obtain ⟨A32, rq31, eq31, hIq31, hFq31, kq31⟩ := hqq31
                          cases eq31
                          refine ⟨rfl, rfl, ?_⟩
                          show pmE pg X pg_tyl pg_cl (d + 7) 250 144 [.ref 147, .int x1, .int x2, .int x3, .int x4, .int z9] [.int rq31] (md wc f2 A32) _
                          exact pe_iret (by decide +kernel) rfl rfl ⟨f2, A32, rq31, rfl, hIq31, (fun k n14 n15 n16 => (hGq1 k n14 n15 n16)), (fun k n152 n153 n154 n155 n156 n157 => ((hFq31 k n152 n153 n156 n157)).trans ((hFq1 k n152 n153))), ⟨trivial, trivial⟩⟩
                        · skip
                          refine pe_tableOut (df := 123) (lo := 0) (hi := 10) (offs := #[58, 63, 68, 73, 78, 85, 90, 97, 102, 109, 116]) (t := 145) (by decide +kernel) (by omega) (by decide) rfl ?_
                          refine pe_bipushv (n := (-2)) (v := (-2)) (by decide +kernel) (by decide +kernel) ?_
                          exact pe_iret (by decide +kernel) rfl rfl ⟨f2, A3, (-2), rfl, hIq1, (fun k n14 n15 n16 => (hGq1 k n14 n15 n16)), (fun k n152 n153 n154 n155 n156 n157 => (hFq1 k n152 n153)), ⟨trivial, trivial⟩⟩
