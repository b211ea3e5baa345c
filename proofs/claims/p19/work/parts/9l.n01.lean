set_option maxRecDepth 100000 in
set_option maxHeartbeats 8000000 in
theorem NM_197 {X : pm_X} {d : Nat} {wc : pm_W} {f : Nat → Int32} {A : Nat → List Int32} {x1 : Int32} (hc : wc.length = 147) (hI : MI f A) : pmE pg X pg_tyl pg_cl (d) 197 0 (pm_ent (pm_max pg 197) [.ref 147, .int x1]) [] (md wc f A) (fun q => ∃ (A' : Nat → List Int32) (r : Int32), q = (some (.int r), md wc f A', 0, 0) ∧ MI f A' ∧ (∀ k : Nat, k ≠ 148 → A' k = A k) ∧ ((((-1) ≤ r.toInt ∧ r.toInt ≤ 600) ∧ (((x1.toInt < 0 ∨ fr (A 148) 2 < x1.toInt) ∧ fr (A' 148) 2 = fr (A 148) 2 ∧ r.toInt = -1) ∨ (0 ≤ x1.toInt ∧ x1.toInt ≤ fr (A 148) 2 ∧ fr (A' 148) 2 = x1.toInt ∧ r.toInt = x1.toInt)) ∧ KE A A' ∧ True))) := by
  show pmE pg X pg_tyl pg_cl (d) 197 0 [.ref 147, .int x1] [] (md wc f A) _
  refine pe_iload_n (j := 1) (by decide +kernel) rfl ?_
  have lw2 := zi_lo x1
  have uw2 := zi_hi x1
  refine pz_if_lt (off := 13) (t := 14) (by decide +kernel) (by decide) rfl rfl (fun h1 => ?_) (fun h1 => ?_)
  · skip
    refine pe_iconstv (n := (-1)) (v := (-1)) (by decide +kernel) (by decide +kernel) ?_
    exact pe_iret (by decide +kernel) rfl rfl ⟨A, (-1), rfl, hI, (fun k n148 => rfl), ⟨(by decide +kernel), (Or.inl ⟨Or.inl (by omega), rfl, kz_m1⟩), KE_refl, trivial⟩⟩
  · skip
    refine pe_iload_n (j := 1) (by decide +kernel) rfl ?_
    refine pe_aload_n (j := 0) (by decide +kernel) rfl ?_
    refine pe_get (j := 7) (ci := 12) (n := 0) (by decide +kernel) (by decide +kernel) (md_o hc) rfl ?_
    refine pe_iconstv (n := 2) (v := 2) (by decide +kernel) (by decide +kernel) ?_
    refine pz_iald (by decide +kernel) (md_a148 hc) (mlen_148 hI) kz_2 (by omega) (by omega) (fun v3 ev3 => ?_)
    have rv3 : 0 ≤ v3.toInt ∧ v3.toInt ≤ 600 := MT_c2 (mt_148 hI ev3 (by omega)) (by omega)
    refine pz_icmp_le (off := 5) (t := 16) (by decide +kernel) (by decide) rfl rfl rfl (fun h4 => ?_) (fun h4 => ?_)
    · skip
      refine pe_aload_n (j := 0) (by decide +kernel) rfl ?_
      refine pe_get (j := 7) (ci := 12) (n := 0) (by decide +kernel) (by decide +kernel) (md_o hc) rfl ?_
      refine pe_iconstv (n := 2) (v := 2) (by decide +kernel) (by decide +kernel) ?_
      refine pe_iload_n (j := 1) (by decide +kernel) rfl ?_
      refine mz_st148 (by decide +kernel) hc hI kz_2 (by omega) (by omega) (by simp only [MT]; omega) (fun A5 eA5 hIA5 => ?_)
      refine pe_iload_n (j := 1) (by decide +kernel) rfl ?_
      exact pe_iret (by decide +kernel) rfl rfl ⟨A5, x1, rfl, hIA5, (fun k n148 => upa_fr eA5 n148), ⟨(by omega), (Or.inr ⟨by omega, by rw [(show fr (A 148) (2) = v3.toInt from congrArg Int32.toInt ev3.symm)]; omega, by rw [upa_at eA5, fr_eq (by decide) (by rw [mlen_148 hI]; decide)], rfl⟩), (KE_set (i := 2) KE_refl eA5 (by decide) (by decide)), trivial⟩⟩
    · skip
      refine pe_iconstv (n := (-1)) (v := (-1)) (by decide +kernel) (by decide +kernel) ?_
      exact pe_iret (by decide +kernel) rfl rfl ⟨A, (-1), rfl, hI, (fun k n148 => rfl), ⟨(by decide +kernel), (Or.inl ⟨Or.inr (by rw [(show fr (A 148) (2) = v3.toInt from congrArg Int32.toInt ev3.symm)]; omega), rfl, kz_m1⟩), KE_refl, trivial⟩⟩
set_option maxRecDepth 100000 in
set_option maxHeartbeats 8000000 in
theorem NL_316_20 {X : pm_X} {d : Nat} {wc : pm_W} {Q : pm_R → Prop} {f : Nat → Int32} {A0 : Nat → List Int32} {x1 : Int32} (hc : wc.length = 147) (gx1 : (0 ≤ x1.toInt ∧ x1.toInt ≤ 2)) (k_53_0 : ∀ (A' : Nat → List Int32) (y2 : Int32), MJ f A' → (∀ k : Nat, k ≠ 148 → A' k = A0 k) → (1690 ≤ y2.toInt ∧ y2.toInt ≤ 1690) → CP (A' 148) (A0 148) (A0 148) (1690 * (x1.toInt + 1)) (1690 * 0) y2.toInt → pmE pg X pg_tyl pg_cl (d + 1) 316 53 [.ref 147, .int x1, .int y2] [] (md wc f A') Q) : ∀ (m : Nat) (A : Nat → List Int32) (x2 : Int32), MJ f A → (∀ k : Nat, k ≠ 148 → A k = A0 k) → (0 ≤ x2.toInt ∧ x2.toInt ≤ 1690) → CP (A 148) (A0 148) (A0 148) (1690 * (x1.toInt + 1)) (1690 * 0) x2.toInt → 1690 - x2.toInt < (m : Int) → pmE pg X pg_tyl pg_cl (d + 1) 316 20 [.ref 147, .int x1, .int x2] [] (md wc f A) Q := by
  intro m
  induction m with
  | zero =>
    intro A x2 hI hF gx2 hpi0 hm
    exfalso
    have l0 := zi_lo x2
    have u0 := zi_hi x2
    omega
  | succ m ih =>
    intro A x2 hI hF gx2 hpi0 hm
    refine pe_iload_n (j := 2) (by decide +kernel) rfl ?_
    refine pe_sipushv (n := 1690) (v := 1690) (by decide +kernel) (by decide +kernel) ?_
    refine pz_icmp_ge (off := 29) (t := 53) (by decide +kernel) (by decide) rfl rfl kz_1690 (fun h1 => ?_) (fun h1 => ?_)
    · skip
      exact k_53_0 A x2 hI (fun k n148 => (hF k n148)) (by omega) hpi0
    · skip
      refine pe_aload_n (j := 0) (by decide +kernel) rfl ?_
      refine pe_get (j := 7) (ci := 12) (n := 0) (by decide +kernel) (by decide +kernel) (md_o hc) rfl ?_
      refine pe_sipushv (n := 1690) (v := 1690) (by decide +kernel) (by decide +kernel) ?_
      refine pe_iload_n (j := 1) (by decide +kernel) rfl ?_
      refine pe_iconstv (n := 1) (v := 1) (by decide +kernel) (by decide +kernel) ?_
      refine pz_add (by decide +kernel) rfl kz_1 (by omega) (by omega) (fun z2 hz2 => ?_)
      refine pz_mul (by decide +kernel) kz_1690 hz2 (by omega) (by omega) (fun z3 hz3 => ?_)
      clear hz2
      refine pe_iload_n (j := 2) (by decide +kernel) rfl ?_
      refine pz_add (by decide +kernel) hz3 rfl (by omega) (by omega) (fun z4 hz4 => ?_)
      clear hz3
      refine pe_aload_n (j := 0) (by decide +kernel) rfl ?_
      refine pe_get (j := 7) (ci := 12) (n := 0) (by decide +kernel) (by decide +kernel) (md_o hc) rfl ?_
      refine pe_iload_n (j := 2) (by decide +kernel) rfl ?_
      refine pz_iald (by decide +kernel) (md_a148 hc) (mjlen_148 hI) rfl (by omega) (by omega) (fun v5 ev5 => ?_)
      refine mj_st148 (by decide +kernel) hc hI hz4 (by omega) (by omega) (fun A6 eA6 hIA6 => ?_)
      refine pz_iinc (j := 2) (n := 1) (by decide +kernel) rfl rfl (by decide +kernel) (by omega) (by omega) (fun z7 hz7 => ?_)
      show pmE pg X pg_tyl pg_cl (d + 1) 316 50 [.ref 147, .int x1, .int z7] [] (md wc f A6) _
      refine pe_goto (off := (-30)) (t := 20) (by decide +kernel) (by decide) rfl ?_
      exact ih A6 z7 hIA6 (fun k n148 => (upa_fr eA6 n148).trans ((hF k n148))) (by omega) (by rw [hz7, upa_at eA6]; exact CP_step hpi0 (by omega) (by omega) (by rw [mjlen_148 hI]; omega) (by rw [show 1690 * 0 + x2.toInt = x2.toInt by omega, ← hpi0.2 (x2.toInt) (by omega) (by omega), (show fr (A 148) (x2.toInt) = v5.toInt from congrArg Int32.toInt ev5.symm)])) (by omega)
set_option maxRecDepth 100000 in
set_option maxHeartbeats 8000000 in
theorem NM_316 {X : pm_X} {d : Nat} {wc : pm_W} {f : Nat → Int32} {A : Nat → List Int32} {x1 : Int32} (hc : wc.length = 147) (hI : MI f A) : pmE pg X pg_tyl pg_cl (d + 1) 316 0 (pm_ent (pm_max pg 316) [.ref 147, .int x1]) [] (md wc f A) (fun q => ∃ (A' : Nat → List Int32) (r : Int32), q = (some (.int r), md wc f A', 0, 0) ∧ MI f A' ∧ (∀ k : Nat, k ≠ 148 → k ≠ 149 → A' k = A k) ∧ ((r = 0 ∧ (x1.toInt < 0 ∨ 2 < x1.toInt) ∧ (A' 148 = A 148 ∧ A' 149 = A 149) ∧ True) ∨ (r = 1 ∧ CP (A' 148) (A 148) (A 148) (1690 * (x1.toInt + 1)) (1690 * 0) 1690 ∧ (fr (A' 149) x1.toInt = 1 ∧ ∀ j : Int, 0 ≤ j → j ≠ x1.toInt → fr (A' 149) j = fr (A 149) j) ∧ (0 ≤ x1.toInt ∧ x1.toInt ≤ 2)))) := by
  show pmE pg X pg_tyl pg_cl (d + 1) 316 0 [.ref 147, .int x1, pm_dead] [] (md wc f A) _
  refine pe_iload_n (j := 1) (by decide +kernel) rfl ?_
  refine pe_iconstv (n := 0) (v := 0) (by decide +kernel) (by decide +kernel) ?_
  refine pe_iconstv (n := 2) (v := 2) (by decide +kernel) (by decide +kernel) ?_
  refine pi_S (j := 119) (mj := 199) (by decide +kernel) (by decide +kernel) rfl ?_
  show pmE pg X pg_tyl pg_cl (d) 199 0 [.int x1, .int 0, .int 2] [] (md wc f A) _
  refine pe_iload_n (j := 0) (by decide +kernel) rfl ?_
  refine pe_iload_n (j := 1) (by decide +kernel) rfl ?_
  have lw2 := zi_lo x1
  have uw2 := zi_hi x1
  refine pz_icmp_lt (off := 12) (t := 14) (by decide +kernel) (by decide) rfl rfl kz_0 (fun h1 => ?_) (fun h1 => ?_)
  · skip
    refine pe_iconstv (n := 0) (v := 0) (by decide +kernel) (by decide +kernel) ?_
    refine pe_iret (by decide +kernel) rfl rfl ⟨rfl, rfl, ?_⟩
    show pmE pg X pg_tyl pg_cl (d + 1) 316 6 [.ref 147, .int x1, pm_dead] [.int 0] (md wc f A) _
    refine pz_if_ne (off := 5) (t := 11) (by decide +kernel) (by decide) rfl kz_0 (fun h3 => by omega) (fun h3 => ?_)
    refine pe_iconstv (n := 0) (v := 0) (by decide +kernel) (by decide +kernel) ?_
    exact pe_iret (by decide +kernel) rfl rfl ⟨A, 0, rfl, hI, (fun k n148 n149 => rfl), Or.inl ⟨rfl, (by omega), ⟨rfl, rfl⟩, trivial⟩⟩
  · skip
    refine pe_iload_n (j := 0) (by decide +kernel) rfl ?_
    refine pe_iload_n (j := 2) (by decide +kernel) rfl ?_
    refine pz_icmp_gt (off := 7) (t := 14) (by decide +kernel) (by decide) rfl rfl kz_2 (fun h4 => ?_) (fun h4 => ?_)
    · skip
      refine pe_iconstv (n := 0) (v := 0) (by decide +kernel) (by decide +kernel) ?_
      refine pe_iret (by decide +kernel) rfl rfl ⟨rfl, rfl, ?_⟩
      show pmE pg X pg_tyl pg_cl (d + 1) 316 6 [.ref 147, .int x1, pm_dead] [.int 0] (md wc f A) _
      refine pz_if_ne (off := 5) (t := 11) (by decide +kernel) (by decide) rfl kz_0 (fun h5 => by omega) (fun h5 => ?_)
      refine pe_iconstv (n := 0) (v := 0) (by decide +kernel) (by decide +kernel) ?_
      exact pe_iret (by decide +kernel) rfl rfl ⟨A, 0, rfl, hI, (fun k n148 n149 => rfl), Or.inl ⟨rfl, (by omega), ⟨rfl, rfl⟩, trivial⟩⟩
    · skip
      refine pe_iconstv (n := 1) (v := 1) (by decide +kernel) (by decide +kernel) ?_
      refine pe_goto (off := 4) (t := 15) (by decide +kernel) (by decide) rfl ?_
      refine pe_iret (by decide +kernel) rfl rfl ⟨rfl, rfl, ?_⟩
      show pmE pg X pg_tyl pg_cl (d + 1) 316 6 [.ref 147, .int x1, pm_dead] [.int 1] (md wc f A) _
      refine pz_if_ne (off := 5) (t := 11) (by decide +kernel) (by decide) rfl kz_1 (fun h6 => ?_) (fun h6 => by omega)
      refine pe_aload_n (j := 0) (by decide +kernel) rfl ?_
      refine pe_get (j := 13) (ci := 12) (n := 1) (by decide +kernel) (by decide +kernel) (md_o hc) rfl ?_
      refine pe_iload_n (j := 1) (by decide +kernel) rfl ?_
      refine pe_iconstv (n := 1) (v := 1) (by decide +kernel) (by decide +kernel) ?_
      refine mz_st149 (by decide +kernel) hc hI rfl (by omega) (by omega) (fun A7 eA7 hIA7 => ?_)
      refine pe_iconstv (n := 0) (v := 0) (by decide +kernel) (by decide +kernel) ?_
      refine pe_istore_n (j := 2) (ls' := [.ref 147, .int x1, .int 0]) (by decide +kernel) (Nat.le_of_ble_eq_true rfl) rfl ?_
      refine NL_316_20 hc (by omega) (fun A8 y9 hIy10 hFA8 gy9 hp11 => ?_) 1691 A7 0 (MJ_of hIA7) (fun k _ => rfl) (by decide +kernel) (CP_zero kz_0) (by decide +kernel)
      have hcp := hp11
      rw [show y9.toInt = 1690 by omega] at hcp
      have hIz12 : MI f A8 := MI_img (d := x1.toInt + 1) (t := 0) hIA7 hIy10 hcp (by omega) (by omega) (by omega) (by omega)
      refine pe_iconstv (n := 1) (v := 1) (by decide +kernel) (by decide +kernel) ?_
      exact pe_iret (by decide +kernel) rfl rfl ⟨A8, 1, rfl, hIz12, (fun k n148 n149 => ((hFA8 k n148)).trans (upa_fr eA7 n149)), Or.inr (⟨rfl, (by have h := hcp; rw [show A7 148 = A 148 from upa_fr eA7 (by decide)] at h; exact h), (by rw [show A8 149 = A7 149 from (hFA8 149 (by decide)), upa_at eA7]; exact ⟨(fr_eq (by omega) (by rw [mlen_149 hI]; omega)).trans nar_1, fun j j0 jn => fr_ne (by omega) j0 (Ne.symm jn)⟩), (by omega)⟩)⟩
set_option maxRecDepth 100000 in
set_option maxHeartbeats 8000000 in
theorem NL_317_22 {X : pm_X} {d : Nat} {wc : pm_W} {Q : pm_R → Prop} {f : Nat → Int32} {A0 : Nat → List Int32} {x1 : Int32} (hc : wc.length = 147) (gx1 : (0 ≤ x1.toInt ∧ x1.toInt ≤ 2)) (k_55_0 : ∀ (A' : Nat → List Int32) (y2 : Int32), MJ f A' → (∀ k : Nat, k ≠ 148 → A' k = A0 k) → (1690 ≤ y2.toInt ∧ y2.toInt ≤ 1690) → CP (A' 148) (A0 148) (A0 148) (1690 * 0) (1690 * (x1.toInt + 1)) y2.toInt → pmE pg X pg_tyl pg_cl (d + 1) 317 55 [.ref 147, .int x1, .int y2] [] (md wc f A') Q) : ∀ (m : Nat) (A : Nat → List Int32) (x2 : Int32), MJ f A → (∀ k : Nat, k ≠ 148 → A k = A0 k) → (0 ≤ x2.toInt ∧ x2.toInt ≤ 1690) → CP (A 148) (A0 148) (A0 148) (1690 * 0) (1690 * (x1.toInt + 1)) x2.toInt → 1690 - x2.toInt < (m : Int) → pmE pg X pg_tyl pg_cl (d + 1) 317 22 [.ref 147, .int x1, .int x2] [] (md wc f A) Q := by
  intro m
  induction m with
  | zero =>
    intro A x2 hI hF gx2 hpi0 hm
    exfalso
    have l0 := zi_lo x2
    have u0 := zi_hi x2
    omega
  | succ m ih =>
    intro A x2 hI hF gx2 hpi0 hm
    refine pe_iload_n (j := 2) (by decide +kernel) rfl ?_
    refine pe_sipushv (n := 1690) (v := 1690) (by decide +kernel) (by decide +kernel) ?_
    refine pz_icmp_ge (off := 29) (t := 55) (by decide +kernel) (by decide) rfl rfl kz_1690 (fun h1 => ?_) (fun h1 => ?_)
    · skip
      exact k_55_0 A x2 hI (fun k n148 => (hF k n148)) (by omega) hpi0
    · skip
      refine pe_aload_n (j := 0) (by decide +kernel) rfl ?_
      refine pe_get (j := 7) (ci := 12) (n := 0) (by decide +kernel) (by decide +kernel) (md_o hc) rfl ?_
      refine pe_iload_n (j := 2) (by decide +kernel) rfl ?_
      refine pe_aload_n (j := 0) (by decide +kernel) rfl ?_
      refine pe_get (j := 7) (ci := 12) (n := 0) (by decide +kernel) (by decide +kernel) (md_o hc) rfl ?_
      refine pe_sipushv (n := 1690) (v := 1690) (by decide +kernel) (by decide +kernel) ?_
      refine pe_iload_n (j := 1) (by decide +kernel) rfl ?_
      refine pe_iconstv (n := 1) (v := 1) (by decide +kernel) (by decide +kernel) ?_
      refine pz_add (by decide +kernel) rfl kz_1 (by omega) (by omega) (fun z2 hz2 => ?_)
      refine pz_mul (by decide +kernel) kz_1690 hz2 (by omega) (by omega) (fun z3 hz3 => ?_)
      clear hz2
      refine pe_iload_n (j := 2) (by decide +kernel) rfl ?_
      refine pz_add (by decide +kernel) hz3 rfl (by omega) (by omega) (fun z4 hz4 => ?_)
      clear hz3
      refine pz_iald (by decide +kernel) (md_a148 hc) (mjlen_148 hI) hz4 (by omega) (by omega) (fun v5 ev5 => ?_)
      clear hz4
      refine mj_st148 (by decide +kernel) hc hI rfl (by omega) (by omega) (fun A6 eA6 hIA6 => ?_)
      refine pz_iinc (j := 2) (n := 1) (by decide +kernel) rfl rfl (by decide +kernel) (by omega) (by omega) (fun z7 hz7 => ?_)
      show pmE pg X pg_tyl pg_cl (d + 1) 317 52 [.ref 147, .int x1, .int z7] [] (md wc f A6) _
      refine pe_goto (off := (-30)) (t := 22) (by decide +kernel) (by decide) rfl ?_
      exact ih A6 z7 hIA6 (fun k n148 => (upa_fr eA6 n148).trans ((hF k n148))) (by omega) (by rw [hz7, upa_at eA6, show x2.toInt.toNat = (1690 * 0 + x2.toInt).toNat by omega]; exact CP_step hpi0 (by omega) (by omega) (by rw [mjlen_148 hI]; omega) (by rw [← hpi0.2 (((1690 * (x1.toInt + 1)) + x2.toInt)) (by omega) (by omega), (show fr (A 148) (((1690 * (x1.toInt + 1)) + x2.toInt)) = v5.toInt from congrArg Int32.toInt ev5.symm)])) (by omega)
set_option maxRecDepth 100000 in
set_option maxHeartbeats 8000000 in
theorem NM_317 {X : pm_X} {d : Nat} {wc : pm_W} {f : Nat → Int32} {A : Nat → List Int32} {x1 : Int32} (hc : wc.length = 147) (hI : MI f A) : pmE pg X pg_tyl pg_cl (d + 1) 317 0 (pm_ent (pm_max pg 317) [.ref 147, .int x1]) [] (md wc f A) (fun q => ∃ (A' : Nat → List Int32) (r : Int32), q = (some (.int r), md wc f A', 0, 0) ∧ MI f A' ∧ (∀ k : Nat, k ≠ 148 → A' k = A k) ∧ ((r = 0 ∧ ((x1.toInt < 0 ∨ 2 < x1.toInt) ∨ fr (A 149) x1.toInt = 0) ∧ A' 148 = A 148 ∧ True) ∨ (r = 1 ∧ CP (A' 148) (A 148) (A 148) (1690 * 0) (1690 * (x1.toInt + 1)) 1690 ∧ fr (A 149) x1.toInt ≠ 0 ∧ (0 ≤ x1.toInt ∧ x1.toInt ≤ 2)))) := by
  show pmE pg X pg_tyl pg_cl (d + 1) 317 0 [.ref 147, .int x1, pm_dead] [] (md wc f A) _
  refine pe_iload_n (j := 1) (by decide +kernel) rfl ?_
  refine pe_iconstv (n := 0) (v := 0) (by decide +kernel) (by decide +kernel) ?_
  refine pe_iconstv (n := 2) (v := 2) (by decide +kernel) (by decide +kernel) ?_
  refine pi_S (j := 119) (mj := 199) (by decide +kernel) (by decide +kernel) rfl ?_
  show pmE pg X pg_tyl pg_cl (d) 199 0 [.int x1, .int 0, .int 2] [] (md wc f A) _
  refine pe_iload_n (j := 0) (by decide +kernel) rfl ?_
  refine pe_iload_n (j := 1) (by decide +kernel) rfl ?_
  have lw2 := zi_lo x1
  have uw2 := zi_hi x1
  refine pz_icmp_lt (off := 12) (t := 14) (by decide +kernel) (by decide) rfl rfl kz_0 (fun h1 => ?_) (fun h1 => ?_)
  · skip
    refine pe_iconstv (n := 0) (v := 0) (by decide +kernel) (by decide +kernel) ?_
    refine pe_iret (by decide +kernel) rfl rfl ⟨rfl, rfl, ?_⟩
    show pmE pg X pg_tyl pg_cl (d + 1) 317 6 [.ref 147, .int x1, pm_dead] [.int 0] (md wc f A) _
    refine pz_if_eq (off := 12) (t := 18) (by decide +kernel) (by decide) rfl kz_0 (fun h3 => ?_) (fun h3 => by omega)
    refine pe_iconstv (n := 0) (v := 0) (by decide +kernel) (by decide +kernel) ?_
    exact pe_iret (by decide +kernel) rfl rfl ⟨A, 0, rfl, hI, (fun k n148 => rfl), Or.inl ⟨rfl, (Or.inl (by omega)), rfl, trivial⟩⟩
  · skip
    refine pe_iload_n (j := 0) (by decide +kernel) rfl ?_
    refine pe_iload_n (j := 2) (by decide +kernel) rfl ?_
    refine pz_icmp_gt (off := 7) (t := 14) (by decide +kernel) (by decide) rfl rfl kz_2 (fun h4 => ?_) (fun h4 => ?_)
    · skip
      refine pe_iconstv (n := 0) (v := 0) (by decide +kernel) (by decide +kernel) ?_
      refine pe_iret (by decide +kernel) rfl rfl ⟨rfl, rfl, ?_⟩
      show pmE pg X pg_tyl pg_cl (d + 1) 317 6 [.ref 147, .int x1, pm_dead] [.int 0] (md wc f A) _
      refine pz_if_eq (off := 12) (t := 18) (by decide +kernel) (by decide) rfl kz_0 (fun h5 => ?_) (fun h5 => by omega)
      refine pe_iconstv (n := 0) (v := 0) (by decide +kernel) (by decide +kernel) ?_
      exact pe_iret (by decide +kernel) rfl rfl ⟨A, 0, rfl, hI, (fun k n148 => rfl), Or.inl ⟨rfl, (Or.inl (by omega)), rfl, trivial⟩⟩
    · skip
      refine pe_iconstv (n := 1) (v := 1) (by decide +kernel) (by decide +kernel) ?_
      refine pe_goto (off := 4) (t := 15) (by decide +kernel) (by decide) rfl ?_
      refine pe_iret (by decide +kernel) rfl rfl ⟨rfl, rfl, ?_⟩
      show pmE pg X pg_tyl pg_cl (d + 1) 317 6 [.ref 147, .int x1, pm_dead] [.int 1] (md wc f A) _
      refine pz_if_eq (off := 12) (t := 18) (by decide +kernel) (by decide) rfl kz_1 (fun h6 => by omega) (fun h6 => ?_)
      refine pe_aload_n (j := 0) (by decide +kernel) rfl ?_
      refine pe_get (j := 13) (ci := 12) (n := 1) (by decide +kernel) (by decide +kernel) (md_o hc) rfl ?_
      refine pe_iload_n (j := 1) (by decide +kernel) rfl ?_
      refine pz_zald (by decide +kernel) (md_a149 hc) (mlen_149 hI) rfl (by omega) (by omega) (fun v7 ev7 => ?_)
      have rv7 : 0 ≤ v7.toInt ∧ v7.toInt ≤ 1 := mp_149 hI ev7
      refine pz_if_ne (off := 5) (t := 20) (by decide +kernel) (by decide) rfl rfl (fun h8 => ?_) (fun h8 => ?_)
      · skip
        refine pe_iconstv (n := 0) (v := 0) (by decide +kernel) (by decide +kernel) ?_
        refine pe_istore_n (j := 2) (ls' := [.ref 147, .int x1, .int 0]) (by decide +kernel) (Nat.le_of_ble_eq_true rfl) rfl ?_
        refine NL_317_22 hc (by omega) (fun A9 y10 hIy11 hFA9 gy10 hp12 => ?_) 1691 A 0 (MJ_of hI) (fun k _ => rfl) (by decide +kernel) (CP_zero kz_0) (by decide +kernel)
        have hcp := hp12
        rw [show y10.toInt = 1690 by omega] at hcp
        have hIz13 : MI f A9 := MI_img (d := 0) (t := x1.toInt + 1) hI hIy11 hcp (by omega) (by omega) (by omega) (by omega)
        refine pe_iconstv (n := 1) (v := 1) (by decide +kernel) (by decide +kernel) ?_
        exact pe_iret (by decide +kernel) rfl rfl ⟨A9, 1, rfl, hIz13, (fun k n148 => (hFA9 k n148)), Or.inr (⟨rfl, hcp, (by rw [(show fr (A 149) (x1.toInt) = v7.toInt from congrArg Int32.toInt ev7.symm)]; omega), (by omega)⟩)⟩
      · skip
        refine pe_iconstv (n := 0) (v := 0) (by decide +kernel) (by decide +kernel) ?_
        exact pe_iret (by decide +kernel) rfl rfl ⟨A, 0, rfl, hI, (fun k n148 => rfl), Or.inl ⟨rfl, (Or.inr (by rw [(show fr (A 149) (x1.toInt) = v7.toInt from congrArg Int32.toInt ev7.symm)]; omega)), rfl, trivial⟩⟩
