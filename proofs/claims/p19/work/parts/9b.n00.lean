set_option maxRecDepth 100000 in
set_option maxHeartbeats 8000000 in
theorem NL_242_5 {X : pm_X} {d : Nat} {wc : pm_W} {Q : pm_R → Prop} {f : Nat → Int32} {A : Nat → List Int32} {x1 x2 : Int32} (hc : wc.length = 147) (hI : MI f A) (gx1 : (610 ≤ x1.toInt ∧ x1.toInt ≤ 742 ∧ (x1.toInt - 610) % 132 = 0)) (gx2 : (0 ≤ x2.toInt ∧ x2.toInt ≤ 8)) (hpk0 : N0 (A 152)) (k_40_0 : ∀ (y3 : Int32) (y4 : Int32), ((-180000) ≤ y3.toInt ∧ y3.toInt ≤ 180000) → (0 ≤ y4.toInt ∧ y4.toInt ≤ 9) → (y3.toInt + (-20000) * y4.toInt) ≤ 0 → ((-1) * y3.toInt + (-20000) * y4.toInt) ≤ 0 → y3.toInt = rowS (A 152) x2.toInt y4.toInt.toNat - colS (A 152) x2.toInt y4.toInt.toNat → y4.toInt ≤ fr (A 148) x1.toInt → y4.toInt = fr (A 148) x1.toInt → pmE pg X pg_tyl pg_cl (d + 1) 242 40 [.ref 147, .int x1, .int x2, .int y3, .int y4] [] (md wc f A) Q) : ∀ (m : Nat) (x3 : Int32) (x4 : Int32), ((-180000) ≤ x3.toInt ∧ x3.toInt ≤ 180000) → (0 ≤ x4.toInt ∧ x4.toInt ≤ 9) → (x3.toInt + (-20000) * x4.toInt) ≤ 0 → ((-1) * x3.toInt + (-20000) * x4.toInt) ≤ 0 → x3.toInt = rowS (A 152) x2.toInt x4.toInt.toNat - colS (A 152) x2.toInt x4.toInt.toNat → x4.toInt ≤ fr (A 148) x1.toInt → 9 - x4.toInt < (m : Int) → pmE pg X pg_tyl pg_cl (d + 1) 242 5 [.ref 147, .int x1, .int x2, .int x3, .int x4] [] (md wc f A) Q := by
  intro m
  induction m with
  | zero =>
    intro x3 x4 gx3 gx4 hxi0 hxi1 hpi0 hpi1 hm
    exfalso
    have l0 := zi_lo x4
    have u0 := zi_hi x4
    omega
  | succ m ih =>
    intro x3 x4 gx3 gx4 hxi0 hxi1 hpi0 hpi1 hm
    refine pe_iload (j := 4) (by decide +kernel) rfl ?_
    refine pe_aload_n (j := 0) (by decide +kernel) rfl ?_
    refine pe_get (j := 7) (ci := 12) (n := 0) (by decide +kernel) (by decide +kernel) (md_o hc) rfl ?_
    refine pe_iload_n (j := 1) (by decide +kernel) rfl ?_
    refine pz_iald (by decide +kernel) (md_a148 hc) (mlen_148 hI) rfl (by omega) (by omega) (fun v1 ev1 => ?_)
    have rv1 : 0 ≤ v1.toInt ∧ v1.toInt ≤ 9 := MT_people (mt_148 hI ev1 (by omega)) (by omega)
    refine pz_icmp_ge (off := 27) (t := 40) (by decide +kernel) (by decide) rfl rfl rfl (fun h2 => ?_) (fun h2 => ?_)
    · skip
      exact k_40_0 x3 x4 (by omega) (by omega) (by omega) (by omega) hpi0 hpi1 (by have h := hpi1; rw [(show fr (A 148) (x1.toInt) = v1.toInt from congrArg Int32.toInt ev1.symm)] at h ⊢; omega)
    · skip
      refine pe_iload_n (j := 3) (by decide +kernel) rfl ?_
      refine pe_aload_n (j := 0) (by decide +kernel) rfl ?_
      refine pe_iload_n (j := 2) (by decide +kernel) rfl ?_
      refine pe_iload (j := 4) (by decide +kernel) rfl ?_
      refine pi_V (j := 181) (mj := 232) (by decide +kernel) (cll_V (args := [.int x4, .int x2]) (n := 2) (by decide +kernel) rfl rfl (md_o hc) (by decide +kernel) (Nat.le_of_ble_eq_true rfl) (Nat.le_of_ble_eq_true rfl)) ?_
      show pmE pg X pg_tyl pg_cl (d) 232 0 [.ref 147, .int x2, .int x4] [] (md wc f A) _
      refine pe_aload_n (j := 0) (by decide +kernel) rfl ?_
      refine pe_get (j := 23) (ci := 12) (n := 12) (by decide +kernel) (by decide +kernel) (md_o hc) rfl ?_
      refine pe_bipushv (n := 9) (v := 9) (by decide +kernel) (by decide +kernel) ?_
      refine pe_iload_n (j := 1) (by decide +kernel) rfl ?_
      refine pz_mul (by decide +kernel) kz_9 rfl (by omega) (by omega) (fun z3 hz3 => ?_)
      refine pe_iload_n (j := 2) (by decide +kernel) rfl ?_
      refine pz_add (by decide +kernel) hz3 rfl (by omega) (by omega) (fun z4 hz4 => ?_)
      clear hz3
      refine pz_iald (by decide +kernel) (md_a152 hc) (mlen_152 hI) hz4 (by omega) (by omega) (fun v5 ev5 => ?_)
      clear hz4
      have hb6 := hpk0 (((9 * x2.toInt) + x4.toInt)) (by omega) (by omega)
      rw [(show fr (A 152) (((9 * x2.toInt) + x4.toInt)) = v5.toInt from congrArg Int32.toInt ev5.symm)] at hb6
      refine pe_iret (by decide +kernel) rfl rfl ⟨rfl, rfl, ?_⟩
      show pmE pg X pg_tyl pg_cl (d + 1) 242 24 [.ref 147, .int x1, .int x2, .int x3, .int x4] [.int v5, .int x3] (md wc f A) _
      refine pe_aload_n (j := 0) (by decide +kernel) rfl ?_
      refine pe_iload (j := 4) (by decide +kernel) rfl ?_
      refine pe_iload_n (j := 2) (by decide +kernel) rfl ?_
      refine pi_V (j := 181) (mj := 232) (by decide +kernel) (cll_V (args := [.int x2, .int x4]) (n := 2) (by decide +kernel) rfl rfl (md_o hc) (by decide +kernel) (Nat.le_of_ble_eq_true rfl) (Nat.le_of_ble_eq_true rfl)) ?_
      show pmE pg X pg_tyl pg_cl (d) 232 0 [.ref 147, .int x4, .int x2] [] (md wc f A) _
      refine pe_aload_n (j := 0) (by decide +kernel) rfl ?_
      refine pe_get (j := 23) (ci := 12) (n := 12) (by decide +kernel) (by decide +kernel) (md_o hc) rfl ?_
      refine pe_bipushv (n := 9) (v := 9) (by decide +kernel) (by decide +kernel) ?_
      refine pe_iload_n (j := 1) (by decide +kernel) rfl ?_
      refine pz_mul (by decide +kernel) kz_9 rfl (by omega) (by omega) (fun z7 hz7 => ?_)
      refine pe_iload_n (j := 2) (by decide +kernel) rfl ?_
      refine pz_add (by decide +kernel) hz7 rfl (by omega) (by omega) (fun z8 hz8 => ?_)
      clear hz7
      refine pz_iald (by decide +kernel) (md_a152 hc) (mlen_152 hI) hz8 (by omega) (by omega) (fun v9 ev9 => ?_)
      clear hz8
      have hb10 := hpk0 (((9 * x4.toInt) + x2.toInt)) (by omega) (by omega)
      rw [(show fr (A 152) (((9 * x4.toInt) + x2.toInt)) = v9.toInt from congrArg Int32.toInt ev9.symm)] at hb10
      refine pe_iret (by decide +kernel) rfl rfl ⟨rfl, rfl, ?_⟩
      show pmE pg X pg_tyl pg_cl (d + 1) 242 31 [.ref 147, .int x1, .int x2, .int x3, .int x4] [.int v9, .int v5, .int x3] (md wc f A) _
      refine pz_sub (by decide +kernel) rfl rfl (by omega) (by omega) (fun z11 hz11 => ?_)
      refine pz_add (by decide +kernel) rfl hz11 (by omega) (by omega) (fun z12 hz12 => ?_)
      clear hz11
      refine pe_istore_n (j := 3) (ls' := [.ref 147, .int x1, .int x2, .int z12, .int x4]) (by decide +kernel) (Nat.le_of_ble_eq_true rfl) rfl ?_
      refine pz_iinc (j := 4) (n := 1) (by decide +kernel) rfl rfl (by decide +kernel) (by omega) (by omega) (fun z13 hz13 => ?_)
      show pmE pg X pg_tyl pg_cl (d + 1) 242 37 [.ref 147, .int x1, .int x2, .int z12, .int z13] [] (md wc f A) _
      refine pe_goto (off := (-32)) (t := 5) (by decide +kernel) (by decide) rfl ?_
      have hov14 : rowS (A 152) x2.toInt (x4.toInt + 1).toNat - colS (A 152) x2.toInt (x4.toInt + 1).toNat = rowS (A 152) x2.toInt x4.toInt.toNat - colS (A 152) x2.toInt x4.toInt.toNat + (v5.toInt - v9.toInt) := by
        rw [show (x4.toInt + 1).toNat = x4.toInt.toNat + 1 by omega]
        show rowS (A 152) x2.toInt x4.toInt.toNat + fr (A 152) (9 * x2.toInt + (x4.toInt.toNat : Int)) - (colS (A 152) x2.toInt x4.toInt.toNat + fr (A 152) (9 * (x4.toInt.toNat : Int) + x2.toInt)) = _
        rw [show (x4.toInt.toNat : Int) = x4.toInt by omega, (show fr (A 152) (((9 * x2.toInt) + x4.toInt)) = v5.toInt from congrArg Int32.toInt ev5.symm), (show fr (A 152) (((9 * x4.toInt) + x2.toInt)) = v9.toInt from congrArg Int32.toInt ev9.symm)]
        omega
      exact ih z12 z13 (by omega) (by omega) (by omega) (by omega) (by rw [hz13, hov14, hz12]; omega) (by rw [hz13, (show fr (A 148) (x1.toInt) = v1.toInt from congrArg Int32.toInt ev1.symm)]; omega) (by omega)
set_option maxRecDepth 100000 in
set_option maxHeartbeats 8000000 in
theorem NM_242 {X : pm_X} {d : Nat} {wc : pm_W} {f : Nat → Int32} {A : Nat → List Int32} {x1 x2 : Int32} (hc : wc.length = 147) (hI : MI f A) (gx1 : (610 ≤ x1.toInt ∧ x1.toInt ≤ 742 ∧ (x1.toInt - 610) % 132 = 0)) (gx2 : (0 ≤ x2.toInt ∧ x2.toInt ≤ 8)) (hpp0 : N0 (A 152)) : pmE pg X pg_tyl pg_cl (d + 1) 242 0 (pm_ent (pm_max pg 242) [.ref 147, .int x1, .int x2]) [] (md wc f A) (fun q => ∃ (r : Int32), q = (some (.int r), md wc f A, 0, 0) ∧ ((((-180000) ≤ r.toInt ∧ r.toInt ≤ 180000) ∧ r.toInt = rowS (A 152) x2.toInt (fr (A 148) x1.toInt).toNat - colS (A 152) x2.toInt (fr (A 148) x1.toInt).toNat ∧ True))) := by
  show pmE pg X pg_tyl pg_cl (d + 1) 242 0 [.ref 147, .int x1, .int x2, pm_dead, pm_dead] [] (md wc f A) _
  refine pe_iconstv (n := 0) (v := 0) (by decide +kernel) (by decide +kernel) ?_
  refine pe_istore_n (j := 3) (ls' := [.ref 147, .int x1, .int x2, .int 0, pm_dead]) (by decide +kernel) (Nat.le_of_ble_eq_true rfl) rfl ?_
  refine pe_iconstv (n := 0) (v := 0) (by decide +kernel) (by decide +kernel) ?_
  refine pe_istore (j := 4) (ls' := [.ref 147, .int x1, .int x2, .int 0, .int 0]) (by decide +kernel) (Nat.le_of_ble_eq_true rfl) rfl ?_
  have hl8 := kz_0
  have hl9 := kz_0
  have hl10 := kz_0
  have hl11 := kz_0
  refine NL_242_5 hc hI (by omega) (by omega) hpp0 (fun y1 y2 gy1 gy2 hx3 hx4 hp5 hp6 hp7 => ?_) 10 0 0 (by decide +kernel) (by decide +kernel) (by omega) (by omega) (by rw [kz_0]; rfl) (by rw [kz_0]; exact (mpeo hI (by omega)).1) (by decide +kernel)
  refine pe_iload_n (j := 3) (by decide +kernel) rfl ?_
  exact pe_iret (by decide +kernel) rfl rfl ⟨y1, rfl, ⟨(by omega), (by rw [← hp7]; exact hp5), trivial⟩⟩
set_option maxRecDepth 100000 in
set_option maxHeartbeats 8000000 in
theorem NL_252_4 {X : pm_X} {d : Nat} {wc : pm_W} {Q : pm_R → Prop} {f : Nat → Int32} {A : Nat → List Int32} (hc : wc.length = 147) (hI : MI f A) (hpk0 : N0 (A 152)) (k_25_0 : ∀ (y1 : Int32) (y2 : Int32), (0 ≤ y1.toInt ∧ y1.toInt ≤ 1620000) → (81 ≤ y2.toInt ∧ y2.toInt ≤ 81) → (y1.toInt + (-20000) * y2.toInt) ≤ 0 → ((-1) * y1.toInt) ≤ 0 → y1.toInt = sumT (A 152) y2.toInt.toNat → pmE pg X pg_tyl pg_cl (d) 252 25 [.ref 147, .int y1, .int y2] [] (md wc f A) Q) : ∀ (m : Nat) (x1 : Int32) (x2 : Int32), (0 ≤ x1.toInt ∧ x1.toInt ≤ 1620000) → (0 ≤ x2.toInt ∧ x2.toInt ≤ 81) → (x1.toInt + (-20000) * x2.toInt) ≤ 0 → ((-1) * x1.toInt) ≤ 0 → x1.toInt = sumT (A 152) x2.toInt.toNat → 81 - x2.toInt < (m : Int) → pmE pg X pg_tyl pg_cl (d) 252 4 [.ref 147, .int x1, .int x2] [] (md wc f A) Q := by
  intro m
  induction m with
  | zero =>
    intro x1 x2 gx1 gx2 hxi0 hxi1 hpi0 hm
    exfalso
    have l0 := zi_lo x2
    have u0 := zi_hi x2
    omega
  | succ m ih =>
    intro x1 x2 gx1 gx2 hxi0 hxi1 hpi0 hm
    refine pe_iload_n (j := 2) (by decide +kernel) rfl ?_
    refine pe_bipushv (n := 81) (v := 81) (by decide +kernel) (by decide +kernel) ?_
    refine pz_icmp_ge (off := 18) (t := 25) (by decide +kernel) (by decide) rfl rfl kz_81 (fun h1 => ?_) (fun h1 => ?_)
    · skip
      exact k_25_0 x1 x2 (by omega) (by omega) (by omega) (by omega) hpi0
    · skip
      refine pe_iload_n (j := 1) (by decide +kernel) rfl ?_
      refine pe_aload_n (j := 0) (by decide +kernel) rfl ?_
      refine pe_get (j := 23) (ci := 12) (n := 12) (by decide +kernel) (by decide +kernel) (md_o hc) rfl ?_
      refine pe_iload_n (j := 2) (by decide +kernel) rfl ?_
      refine pz_iald (by decide +kernel) (md_a152 hc) (mlen_152 hI) rfl (by omega) (by omega) (fun v2 ev2 => ?_)
      have hb3 := hpk0 (x2.toInt) (by omega) (by omega)
      rw [(show fr (A 152) (x2.toInt) = v2.toInt from congrArg Int32.toInt ev2.symm)] at hb3
      refine pz_add (by decide +kernel) rfl rfl (by omega) (by omega) (fun z4 hz4 => ?_)
      refine pe_istore_n (j := 1) (ls' := [.ref 147, .int z4, .int x2]) (by decide +kernel) (Nat.le_of_ble_eq_true rfl) rfl ?_
      refine pz_iinc (j := 2) (n := 1) (by decide +kernel) rfl rfl (by decide +kernel) (by omega) (by omega) (fun z5 hz5 => ?_)
      show pmE pg X pg_tyl pg_cl (d) 252 22 [.ref 147, .int z4, .int z5] [] (md wc f A) _
      refine pe_goto (off := (-18)) (t := 4) (by decide +kernel) (by decide) rfl ?_
      exact ih z4 z5 (by omega) (by omega) (by omega) (by omega) (by rw [hz4, hz5, show (x2.toInt + 1).toNat = x2.toInt.toNat + 1 by omega]; show _ = sumT (A 152) x2.toInt.toNat + fr (A 152) (x2.toInt.toNat : Int); rw [show (x2.toInt.toNat : Int) = x2.toInt by omega, (show fr (A 152) (x2.toInt) = v2.toInt from congrArg Int32.toInt ev2.symm)]; omega) (by omega)
set_option maxRecDepth 100000 in
set_option maxHeartbeats 8000000 in
theorem NM_252 {X : pm_X} {d : Nat} {wc : pm_W} {f : Nat → Int32} {A : Nat → List Int32} (hc : wc.length = 147) (hI : MI f A) (hpp0 : N0 (A 152)) : pmE pg X pg_tyl pg_cl (d) 252 0 (pm_ent (pm_max pg 252) [.ref 147]) [] (md wc f A) (fun q => ∃ (r : Int32), q = (some (.int r), md wc f A, 0, 0) ∧ (((0 ≤ r.toInt ∧ r.toInt ≤ 1620000) ∧ r.toInt = sumT (A 152) 81 ∧ True))) := by
  show pmE pg X pg_tyl pg_cl (d) 252 0 [.ref 147, pm_dead, pm_dead] [] (md wc f A) _
  refine pe_iconstv (n := 0) (v := 0) (by decide +kernel) (by decide +kernel) ?_
  refine pe_istore_n (j := 1) (ls' := [.ref 147, .int 0, pm_dead]) (by decide +kernel) (Nat.le_of_ble_eq_true rfl) rfl ?_
  refine pe_iconstv (n := 0) (v := 0) (by decide +kernel) (by decide +kernel) ?_
  refine pe_istore_n (j := 2) (ls' := [.ref 147, .int 0, .int 0]) (by decide +kernel) (Nat.le_of_ble_eq_true rfl) rfl ?_
  have hl6 := kz_0
  have hl7 := kz_0
  have hl8 := kz_0
  refine NL_252_4 hc hI hpp0 (fun y1 y2 gy1 gy2 hx3 hx4 hp5 => ?_) 82 0 0 (by decide +kernel) (by decide +kernel) (by omega) (by omega) (by rw [kz_0]; rfl) (by decide +kernel)
  refine pe_iload_n (j := 1) (by decide +kernel) rfl ?_
  exact pe_iret (by decide +kernel) rfl rfl ⟨y1, rfl, ⟨(by omega), (by rw [hp5, show y2.toInt.toNat = 81 by omega]), trivial⟩⟩
set_option maxRecDepth 100000 in
set_option maxHeartbeats 8000000 in
theorem NL_257_2 {X : pm_X} {d : Nat} {wc : pm_W} {Q : pm_R → Prop} {f : Nat → Int32} {A : Nat → List Int32} {x1 : Int32} (hc : wc.length = 147) (hI : MI f A) (gx1 : ((-1) ≤ x1.toInt ∧ x1.toInt ≤ 8)) (k_51_0 : ∀ (y2 : Int32), (81 ≤ y2.toInt ∧ y2.toInt ≤ 81) → FO (A 152) x1.toInt y2.toInt → pmE pg X pg_tyl pg_cl (d) 257 51 [.ref 147, .int x1, .int y2] [] (md wc f A) Q) (kr_v : ∀ (r : Int32), (0 ≤ r.toInt ∧ r.toInt ≤ 8) → FR (A 152) x1.toInt r.toInt → Q (some (.int r), md wc f A, 0, 0)) : ∀ (m : Nat) (x2 : Int32), (0 ≤ x2.toInt ∧ x2.toInt ≤ 81) → FO (A 152) x1.toInt x2.toInt → 81 - x2.toInt < (m : Int) → pmE pg X pg_tyl pg_cl (d) 257 2 [.ref 147, .int x1, .int x2] [] (md wc f A) Q := by
  intro m
  induction m with
  | zero =>
    intro x2 gx2 hpi0 hm
    exfalso
    have l0 := zi_lo x2
    have u0 := zi_hi x2
    omega
  | succ m ih =>
    intro x2 gx2 hpi0 hm
    refine pe_iload_n (j := 2) (by decide +kernel) rfl ?_
    refine pe_bipushv (n := 81) (v := 81) (by decide +kernel) (by decide +kernel) ?_
    refine pz_icmp_ge (off := 46) (t := 51) (by decide +kernel) (by decide) rfl rfl kz_81 (fun h1 => ?_) (fun h1 => ?_)
    · skip
      exact k_51_0 x2 (by omega) hpi0
    · skip
      refine pe_aload_n (j := 0) (by decide +kernel) rfl ?_
      refine pe_get (j := 23) (ci := 12) (n := 12) (by decide +kernel) (by decide +kernel) (md_o hc) rfl ?_
      refine pe_iload_n (j := 2) (by decide +kernel) rfl ?_
      refine pz_iald (by decide +kernel) (md_a152 hc) (mlen_152 hI) rfl (by omega) (by omega) (fun v2 ev2 => ?_)
      have lw4 := zi_lo v2
      have uw4 := zi_hi v2
      refine pz_if_le (off := 31) (t := 45) (by decide +kernel) (by decide) rfl rfl (fun h3 => ?_) (fun h3 => ?_)
      · skip
        refine pz_iinc (j := 2) (n := 1) (by decide +kernel) rfl rfl (by decide +kernel) (by omega) (by omega) (fun z5 hz5 => ?_)
        show pmE pg X pg_tyl pg_cl (d) 257 48 [.ref 147, .int x1, .int z5] [] (md wc f A) _
        refine pe_goto (off := (-46)) (t := 2) (by decide +kernel) (by decide) rfl ?_
        exact ih z5 (by omega) (by rw [hz5]; exact FO_step hpi0 (fun h => by rw [(show fr (A 152) (x2.toInt) = v2.toInt from congrArg Int32.toInt ev2.symm)]; omega)) (by omega)
      · skip
        refine pe_iload_n (j := 1) (by decide +kernel) rfl ?_
        refine pz_if_lt (off := 11) (t := 29) (by decide +kernel) (by decide) rfl rfl (fun h6 => ?_) (fun h6 => ?_)
        · skip
          refine pe_iload_n (j := 1) (by decide +kernel) rfl ?_
          refine pz_if_ge (off := 10) (t := 40) (by decide +kernel) (by decide) rfl rfl (fun h7 => by omega) (fun h7 => ?_)
          refine pe_iload_n (j := 2) (by decide +kernel) rfl ?_
          refine pe_bipushv (n := 9) (v := 9) (by decide +kernel) (by decide +kernel) ?_
          refine pz_div (by decide +kernel) rfl kz_9 (by omega) (by omega) (fun z8 hz8 => ?_)
          refine pe_goto (off := 7) (t := 44) (by decide +kernel) (by decide) rfl ?_
          exact pe_iret (by decide +kernel) rfl rfl (kr_v z8 (by omega) ⟨fun h => ⟨x2.toInt, by omega, by omega, by omega, by rw [(show fr (A 152) (x2.toInt) = v2.toInt from congrArg Int32.toInt ev2.symm)]; omega⟩, fun h => by rw [show 9 * x1.toInt + z8.toInt = x2.toInt by omega, (show fr (A 152) (x2.toInt) = v2.toInt from congrArg Int32.toInt ev2.symm)]; omega⟩)
        · skip
          refine pe_iload_n (j := 2) (by decide +kernel) rfl ?_
          refine pe_bipushv (n := 9) (v := 9) (by decide +kernel) (by decide +kernel) ?_
          refine pz_div (by decide +kernel) rfl kz_9 (by omega) (by omega) (fun z9 hz9 => ?_)
          refine pe_iload_n (j := 1) (by decide +kernel) rfl ?_
          refine pz_icmp_ne (off := 19) (t := 45) (by decide +kernel) (by decide) rfl rfl rfl (fun h10 => ?_) (fun h10 => ?_)
          · skip
            refine pz_iinc (j := 2) (n := 1) (by decide +kernel) rfl rfl (by decide +kernel) (by omega) (by omega) (fun z11 hz11 => ?_)
            show pmE pg X pg_tyl pg_cl (d) 257 48 [.ref 147, .int x1, .int z11] [] (md wc f A) _
            refine pe_goto (off := (-46)) (t := 2) (by decide +kernel) (by decide) rfl ?_
            exact ih z11 (by omega) (by rw [hz11]; exact FO_step hpi0 (fun h => by rw [(show fr (A 152) (x2.toInt) = v2.toInt from congrArg Int32.toInt ev2.symm)]; omega)) (by omega)
          · skip
            refine pe_iload_n (j := 1) (by decide +kernel) rfl ?_
            refine pz_if_ge (off := 10) (t := 40) (by decide +kernel) (by decide) rfl rfl (fun h12 => ?_) (fun h12 => by omega)
            refine pe_iload_n (j := 2) (by decide +kernel) rfl ?_
            refine pe_bipushv (n := 9) (v := 9) (by decide +kernel) (by decide +kernel) ?_
            refine pz_rem (by decide +kernel) rfl kz_9 (by omega) (by omega) (fun z13 hz13 gz13 kz13 => ?_)
            exact pe_iret (by decide +kernel) rfl rfl (kr_v z13 (by omega) ⟨fun h => ⟨x2.toInt, by omega, by omega, by omega, by rw [(show fr (A 152) (x2.toInt) = v2.toInt from congrArg Int32.toInt ev2.symm)]; omega⟩, fun h => by rw [show 9 * x1.toInt + z13.toInt = x2.toInt by omega, (show fr (A 152) (x2.toInt) = v2.toInt from congrArg Int32.toInt ev2.symm)]; omega⟩)
set_option maxRecDepth 100000 in
set_option maxHeartbeats 8000000 in
theorem NM_257 {X : pm_X} {d : Nat} {wc : pm_W} {f : Nat → Int32} {A : Nat → List Int32} {x1 : Int32} (hc : wc.length = 147) (hI : MI f A) (gx1 : ((-1) ≤ x1.toInt ∧ x1.toInt ≤ 8)) : pmE pg X pg_tyl pg_cl (d) 257 0 (pm_ent (pm_max pg 257) [.ref 147, .int x1]) [] (md wc f A) (fun q => ∃ (r : Int32), q = (some (.int r), md wc f A, 0, 0) ∧ ((((-1) ≤ r.toInt ∧ r.toInt ≤ 8) ∧ (0 ≤ r.toInt → FR (A 152) x1.toInt r.toInt) ∧ (r.toInt < 0 → FO (A 152) x1.toInt 81) ∧ True))) := by
  show pmE pg X pg_tyl pg_cl (d) 257 0 [.ref 147, .int x1, pm_dead] [] (md wc f A) _
  refine pe_iconstv (n := 0) (v := 0) (by decide +kernel) (by decide +kernel) ?_
  refine pe_istore_n (j := 2) (ls' := [.ref 147, .int x1, .int 0]) (by decide +kernel) (Nat.le_of_ble_eq_true rfl) rfl ?_
  refine NL_257_2 hc hI (by omega) (fun y1 gy1 hp2 => ?_) (fun r3 gr3 hp4 => ⟨r3, rfl, ⟨(by omega), (fun _ => hp4), (fun h => absurd h (by omega)), trivial⟩⟩) 82 0 (by decide +kernel) (fun j j0 j1 _ => absurd j1 (by rw [kz_0]; omega)) (by decide +kernel)
  refine pe_iconstv (n := (-1)) (v := (-1)) (by decide +kernel) (by decide +kernel) ?_
  exact pe_iret (by decide +kernel) rfl rfl ⟨(-1), rfl, ⟨(by decide +kernel), (fun h => absurd h (by decide +kernel)), (fun _ j j0 j1 hj => hp2 j j0 (by omega) hj), trivial⟩⟩
