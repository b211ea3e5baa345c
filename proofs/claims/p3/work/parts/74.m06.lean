set_option maxRecDepth 100000 in
set_option maxHeartbeats 8000000 in
theorem MM_303 {X : pm_X} {d : Nat} {wc : pm_W} {f : Nat → Int32} {A : Nat → List Int32} {x1 : Int32} (hc : wc.length = 147) (hI : MI f A) (gx1 : (100 ≤ x1.toInt ∧ x1.toInt ≤ 100)) : pmE pg X pg_tyl pg_cl (d) 303 0 (pm_ent (pm_max pg 303) [.ref 147, .int x1]) [] (md wc f A) (fun q => ∃ (f' : Nat → Int32) (r : Int32), q = (some (.int r), md wc f' A, 0, 0) ∧ MI f' A ∧ (∀ k : Nat, k ≠ 33 → f' k = f k) ∧ (((0 ≤ r.toInt ∧ r.toInt ≤ 99) ∧ True))) := by
  show pmE pg X pg_tyl pg_cl (d) 303 0 [.ref 147, .int x1] [] (md wc f A) _
  refine pe_aload_n (j := 0) (by decide +kernel) rfl ?_
  refine pe_aload_n (j := 0) (by decide +kernel) rfl ?_
  refine pe_get (j := 364) (ci := 12) (n := 33) (by decide +kernel) (by decide +kernel) (md_o hc) rfl ?_
  refine pe_ldc_w (j := 367) (v := 1103515245) (by decide +kernel) (by decide +kernel) ?_
  refine pw_mul (by decide +kernel) (fun z1 => ?_)
  refine pe_sipushv (n := 12345) (v := 12345) (by decide +kernel) (by decide +kernel) ?_
  refine pw_add (by decide +kernel) (fun z2 => ?_)
  refine mz_put33 (jj := 364) (by decide +kernel) (by decide +kernel) hc hI (fun f3 ef3 hIf3 => ?_)
  refine pe_aload_n (j := 0) (by decide +kernel) rfl ?_
  refine pe_get (j := 364) (ci := 12) (n := 33) (by decide +kernel) (by decide +kernel) (md_o hc) rfl ?_
  refine pe_top (v := z2) (upf_at ef3) ?_
  refine pe_bipushv (n := 16) (v := 16) (by decide +kernel) (by decide +kernel) ?_
  refine pz_ushr16 (by decide +kernel) (fun z4 hz4 => ?_)
  refine pe_iload_n (j := 1) (by decide +kernel) rfl ?_
  refine pz_rem (by decide +kernel) rfl rfl (by omega) (by omega) (fun z5 hz5 gz5 kz5 => ?_)
  clear hz5
  exact pe_iret (by decide +kernel) rfl rfl ⟨f3, z5, rfl, hIf3, (fun k n33 => upf_fr ef3 n33), ⟨(by omega), trivial⟩⟩
set_option maxRecDepth 100000 in
set_option maxHeartbeats 8000000 in
theorem ML_257_2 {X : pm_X} {d : Nat} {wc : pm_W} {Q : pm_R → Prop} {f : Nat → Int32} {A : Nat → List Int32} {x1 : Int32} (hc : wc.length = 147) (hI : MI f A) (gx1 : ((-1) ≤ x1.toInt ∧ x1.toInt ≤ 8)) (k_51_0 : ∀ (y2 : Int32), (81 ≤ y2.toInt ∧ y2.toInt ≤ 81) → pmE pg X pg_tyl pg_cl (d) 257 51 [.ref 147, .int x1, .int y2] [] (md wc f A) Q) (kr_v : ∀ (r : Int32), (0 ≤ r.toInt ∧ r.toInt ≤ 8) → Q (some (.int r), md wc f A, 0, 0)) : ∀ (m : Nat) (x2 : Int32), (0 ≤ x2.toInt ∧ x2.toInt ≤ 81) → 81 - x2.toInt < (m : Int) → pmE pg X pg_tyl pg_cl (d) 257 2 [.ref 147, .int x1, .int x2] [] (md wc f A) Q := by
  intro m
  induction m with
  | zero =>
    intro x2 gx2 hm
    exfalso
    have l0 := zi_lo x2
    have u0 := zi_hi x2
    omega
  | succ m ih =>
    intro x2 gx2 hm
    refine pe_iload_n (j := 2) (by decide +kernel) rfl ?_
    refine pe_bipushv (n := 81) (v := 81) (by decide +kernel) (by decide +kernel) ?_
    refine pz_icmp_ge (off := 46) (t := 51) (by decide +kernel) (by decide) rfl rfl kz_81 (fun h1 => ?_) (fun h1 => ?_)
    · skip
      exact k_51_0 x2 (by omega)
    · skip
      refine pe_aload_n (j := 0) (by decide +kernel) rfl ?_
      refine pe_get (j := 23) (ci := 12) (n := 12) (by decide +kernel) (by decide +kernel) (md_o hc) rfl ?_
      refine pe_iload_n (j := 2) (by decide +kernel) rfl ?_
      refine mz_ld152 (by decide +kernel) hc hI rfl (by omega) (by omega) (fun v2 ev2 => ?_)
      refine pz_if_le (off := 31) (t := 45) (by decide +kernel) (by decide) rfl rfl (fun h3 => ?_) (fun h3 => ?_)
      · skip
        refine pz_iinc (j := 2) (n := 1) (by decide +kernel) rfl rfl (by decide +kernel) (by omega) (by omega) (fun z4 hz4 => ?_)
        show pmE pg X pg_tyl pg_cl (d) 257 48 [.ref 147, .int x1, .int z4] [] (md wc f A) _
        refine pe_goto (off := (-46)) (t := 2) (by decide +kernel) (by decide) rfl ?_
        exact ih z4 (by omega) (by omega)
      · skip
        refine pe_iload_n (j := 1) (by decide +kernel) rfl ?_
        refine pz_if_lt (off := 11) (t := 29) (by decide +kernel) (by decide) rfl rfl (fun h5 => ?_) (fun h5 => ?_)
        · skip
          refine pe_iload_n (j := 1) (by decide +kernel) rfl ?_
          refine pz_if_ge (off := 10) (t := 40) (by decide +kernel) (by decide) rfl rfl (fun h6 => by omega) (fun h6 => ?_)
          refine pe_iload_n (j := 2) (by decide +kernel) rfl ?_
          refine pe_bipushv (n := 9) (v := 9) (by decide +kernel) (by decide +kernel) ?_
          refine pz_div (by decide +kernel) rfl kz_9 (by omega) (by omega) (fun z7 hz7 => ?_)
          refine pe_goto (off := 7) (t := 44) (by decide +kernel) (by decide) rfl ?_
          exact pe_iret (by decide +kernel) rfl rfl (kr_v z7 (by omega))
        · skip
          refine pe_iload_n (j := 2) (by decide +kernel) rfl ?_
          refine pe_bipushv (n := 9) (v := 9) (by decide +kernel) (by decide +kernel) ?_
          refine pz_div (by decide +kernel) rfl kz_9 (by omega) (by omega) (fun z8 hz8 => ?_)
          refine pe_iload_n (j := 1) (by decide +kernel) rfl ?_
          refine pz_icmp_ne (off := 19) (t := 45) (by decide +kernel) (by decide) rfl rfl rfl (fun h9 => ?_) (fun h9 => ?_)
          · skip
            refine pz_iinc (j := 2) (n := 1) (by decide +kernel) rfl rfl (by decide +kernel) (by omega) (by omega) (fun z10 hz10 => ?_)
            show pmE pg X pg_tyl pg_cl (d) 257 48 [.ref 147, .int x1, .int z10] [] (md wc f A) _
            refine pe_goto (off := (-46)) (t := 2) (by decide +kernel) (by decide) rfl ?_
            exact ih z10 (by omega) (by omega)
          · skip
            refine pe_iload_n (j := 1) (by decide +kernel) rfl ?_
            refine pz_if_ge (off := 10) (t := 40) (by decide +kernel) (by decide) rfl rfl (fun h11 => ?_) (fun h11 => by omega)
            refine pe_iload_n (j := 2) (by decide +kernel) rfl ?_
            refine pe_bipushv (n := 9) (v := 9) (by decide +kernel) (by decide +kernel) ?_
            refine pz_rem (by decide +kernel) rfl kz_9 (by omega) (by omega) (fun z12 hz12 gz12 kz12 => ?_)
            exact pe_iret (by decide +kernel) rfl rfl (kr_v z12 (by omega))
set_option maxRecDepth 100000 in
set_option maxHeartbeats 8000000 in
theorem MM_257 {X : pm_X} {d : Nat} {wc : pm_W} {f : Nat → Int32} {A : Nat → List Int32} {x1 : Int32} (hc : wc.length = 147) (hI : MI f A) (gx1 : ((-1) ≤ x1.toInt ∧ x1.toInt ≤ 8)) : pmE pg X pg_tyl pg_cl (d) 257 0 (pm_ent (pm_max pg 257) [.ref 147, .int x1]) [] (md wc f A) (fun q => ∃ (r : Int32), q = (some (.int r), md wc f A, 0, 0) ∧ ((((-1) ≤ r.toInt ∧ r.toInt ≤ 8) ∧ True))) := by
  show pmE pg X pg_tyl pg_cl (d) 257 0 [.ref 147, .int x1, pm_dead] [] (md wc f A) _
  refine pe_iconstv (n := 0) (v := 0) (by decide +kernel) (by decide +kernel) ?_
  refine pe_istore_n (j := 2) (ls' := [.ref 147, .int x1, .int 0]) (by decide +kernel) (Nat.le_of_ble_eq_true rfl) rfl ?_
  refine ML_257_2 hc hI (by omega) (fun y1 gy1 => ?_) (fun r2 gr2 => ⟨r2, rfl, ⟨(by omega), trivial⟩⟩) 82 0 (by decide +kernel) (by decide +kernel)
  refine pe_iconstv (n := (-1)) (v := (-1)) (by decide +kernel) (by decide +kernel) ?_
  exact pe_iret (by decide +kernel) rfl rfl ⟨(-1), rfl, ⟨(by decide +kernel), trivial⟩⟩
set_option maxRecDepth 100000 in
set_option maxHeartbeats 8000000 in
theorem ML_201_195 {X : pm_X} {d : Nat} {wc : pm_W} {Q : pm_R → Prop} {A : Nat → List Int32} {f0 : Nat → Int32} {x1 : Int32} (hc : wc.length = 147) (gx1 : (48 ≤ x1.toInt ∧ x1.toInt ≤ 57)) (k_258_0 : ∀ (f' : Nat → Int32), MI f' A → (∀ k : Nat, k ≠ 3 → k ≠ 6 → f' k = f0 k) → pmE pg X pg_tyl pg_cl (d + 2) 201 258 [.ref 147, .int x1, pm_dead] [] (md wc f' A) Q) : ∀ (m : Nat) (f : Nat → Int32), MI f A → (∀ k : Nat, k ≠ 3 → k ≠ 6 → f k = f0 k) → 600 - (f 3).toInt < (m : Int) → pmE pg X pg_tyl pg_cl (d + 2) 201 195 [.ref 147, .int x1, pm_dead] [] (md wc f A) Q := by
  intro m
  induction m with
  | zero =>
    intro f hI hG hm
    exfalso
    have h := hI.1 3
    simp only [MF] at h
    omega
  | succ m ih =>
    intro f hI hG hm
    refine pe_aload_n (j := 0) (by decide +kernel) rfl ?_
    refine pe_aload_n (j := 0) (by decide +kernel) rfl ?_
    refine pe_get (j := 83) (ci := 12) (n := 3) (by decide +kernel) (by decide +kernel) (md_o hc) rfl ?_
    have hr_3_f := hI.1 3
    simp only [MF] at hr_3_f
    refine pi_V (j := 86) (mj := 202) (by decide +kernel) (cll_V (args := [.int (f 3)]) (n := 1) (by decide +kernel) rfl rfl (md_o hc) (by decide +kernel) (Nat.le_of_ble_eq_true rfl) (Nat.le_of_ble_eq_true rfl)) ?_
    show pmE pg X pg_tyl pg_cl (d + 1) 202 0 [.ref 147, .int (f 3)] [] (md wc f A) _
    refine pe_iload_n (j := 1) (by decide +kernel) rfl ?_
    refine pe_aload_n (j := 0) (by decide +kernel) rfl ?_
    refine pe_get (j := 75) (ci := 12) (n := 2) (by decide +kernel) (by decide +kernel) (md_o hc) rfl ?_
    have hr_2_f := hI.1 2
    simp only [MF] at hr_2_f
    refine pz_icmp_ge (off := 15) (t := 20) (by decide +kernel) (by decide) rfl rfl rfl (fun h1 => ?_) (fun h1 => ?_)
    · skip
      refine pe_iconstv (n := (-1)) (v := (-1)) (by decide +kernel) (by decide +kernel) ?_
      refine pe_iret (by decide +kernel) rfl rfl ⟨rfl, rfl, ?_⟩
      show pmE pg X pg_tyl pg_cl (d + 2) 201 203 [.ref 147, .int x1, pm_dead] [.int (-1)] (md wc f A) _
      refine pi_S (j := 106) (mj := 206) (by decide +kernel) (by decide +kernel) rfl ?_
      show pmE pg X pg_tyl pg_cl (d + 1) 206 0 [.int (-1)] [] (md wc f A) _
      refine pe_iload_n (j := 0) (by decide +kernel) rfl ?_
      refine pe_bipushv (n := 48) (v := 48) (by decide +kernel) (by decide +kernel) ?_
      refine pz_icmp_lt (off := 13) (t := 16) (by decide +kernel) (by decide) rfl kz_m1 kz_48 (fun h2 => ?_) (fun h2 => by omega)
      refine pe_iconstv (n := 0) (v := 0) (by decide +kernel) (by decide +kernel) ?_
      refine pe_iret (by decide +kernel) rfl rfl ⟨rfl, rfl, ?_⟩
      show pmE pg X pg_tyl pg_cl (d + 2) 201 206 [.ref 147, .int x1, pm_dead] [.int 0] (md wc f A) _
      refine pz_if_eq (off := 52) (t := 258) (by decide +kernel) (by decide) rfl kz_0 (fun h3 => ?_) (fun h3 => by omega)
      exact k_258_0 f hI (fun k n3 n6 => (hG k n3 n6))
    · skip
      refine pe_aload_n (j := 0) (by decide +kernel) rfl ?_
      refine pe_get (j := 7) (ci := 12) (n := 0) (by decide +kernel) (by decide +kernel) (md_o hc) rfl ?_
      refine pe_bipushv (n := 10) (v := 10) (by decide +kernel) (by decide +kernel) ?_
      refine pe_iload_n (j := 1) (by decide +kernel) rfl ?_
      refine pz_add (by decide +kernel) kz_10 rfl (by omega) (by omega) (fun z4 hz4 => ?_)
      refine mz_ld148 (by decide +kernel) hc hI hz4 (by omega) (by omega) (fun v5 ev5 pv5 => ?_)
      clear pv5
      clear hz4
      refine pe_goto (off := 4) (t := 21) (by decide +kernel) (by decide) rfl ?_
      refine pe_iret (by decide +kernel) rfl rfl ⟨rfl, rfl, ?_⟩
      show pmE pg X pg_tyl pg_cl (d + 2) 201 203 [.ref 147, .int x1, pm_dead] [.int v5] (md wc f A) _
      refine pi_S (j := 106) (mj := 206) (by decide +kernel) (by decide +kernel) rfl ?_
      show pmE pg X pg_tyl pg_cl (d + 1) 206 0 [.int v5] [] (md wc f A) _
      refine pe_iload_n (j := 0) (by decide +kernel) rfl ?_
      refine pe_bipushv (n := 48) (v := 48) (by decide +kernel) (by decide +kernel) ?_
      refine pz_icmp_lt (off := 13) (t := 16) (by decide +kernel) (by decide) rfl rfl kz_48 (fun h6 => ?_) (fun h6 => ?_)
      · skip
        refine pe_iconstv (n := 0) (v := 0) (by decide +kernel) (by decide +kernel) ?_
        refine pe_iret (by decide +kernel) rfl rfl ⟨rfl, rfl, ?_⟩
        show pmE pg X pg_tyl pg_cl (d + 2) 201 206 [.ref 147, .int x1, pm_dead] [.int 0] (md wc f A) _
        refine pz_if_eq (off := 52) (t := 258) (by decide +kernel) (by decide) rfl kz_0 (fun h7 => ?_) (fun h7 => by omega)
        exact k_258_0 f hI (fun k n3 n6 => (hG k n3 n6))
      · skip
        refine pe_iload_n (j := 0) (by decide +kernel) rfl ?_
        refine pe_bipushv (n := 57) (v := 57) (by decide +kernel) (by decide +kernel) ?_
        refine pz_icmp_gt (off := 7) (t := 16) (by decide +kernel) (by decide) rfl rfl kz_57 (fun h8 => ?_) (fun h8 => ?_)
        · skip
          refine pe_iconstv (n := 0) (v := 0) (by decide +kernel) (by decide +kernel) ?_
          refine pe_iret (by decide +kernel) rfl rfl ⟨rfl, rfl, ?_⟩
          show pmE pg X pg_tyl pg_cl (d + 2) 201 206 [.ref 147, .int x1, pm_dead] [.int 0] (md wc f A) _
          refine pz_if_eq (off := 52) (t := 258) (by decide +kernel) (by decide) rfl kz_0 (fun h9 => ?_) (fun h9 => by omega)
          exact k_258_0 f hI (fun k n3 n6 => (hG k n3 n6))
        · skip
          refine pe_iconstv (n := 1) (v := 1) (by decide +kernel) (by decide +kernel) ?_
          refine pe_goto (off := 4) (t := 17) (by decide +kernel) (by decide) rfl ?_
          refine pe_iret (by decide +kernel) rfl rfl ⟨rfl, rfl, ?_⟩
          show pmE pg X pg_tyl pg_cl (d + 2) 201 206 [.ref 147, .int x1, pm_dead] [.int 1] (md wc f A) _
          refine pz_if_eq (off := 52) (t := 258) (by decide +kernel) (by decide) rfl kz_1 (fun h10 => by omega) (fun h10 => ?_)
          refine pe_aload_n (j := 0) (by decide +kernel) rfl ?_
          refine pe_get (j := 83) (ci := 12) (n := 3) (by decide +kernel) (by decide +kernel) (md_o hc) rfl ?_
          refine pe_aload_n (j := 0) (by decide +kernel) rfl ?_
          refine pe_get (j := 90) (ci := 12) (n := 4) (by decide +kernel) (by decide +kernel) (md_o hc) rfl ?_
          refine pw_sub (by decide +kernel) (fun z11 => ?_)
          refine pe_iconstv (n := 2) (v := 2) (by decide +kernel) (by decide +kernel) ?_
          refine pz_icmp_ge (off := 26) (t := 245) (by decide +kernel) (by decide) rfl rfl kz_2 (fun h12 => ?_) (fun h12 => ?_)
          · skip
            refine pe_aload_n (j := 0) (by decide +kernel) rfl ?_
            refine pe_dup (by decide +kernel) rfl ?_
            refine pe_get (j := 83) (ci := 12) (n := 3) (by decide +kernel) (by decide +kernel) (md_o hc) rfl ?_
            refine pe_iconstv (n := 1) (v := 1) (by decide +kernel) (by decide +kernel) ?_
            refine pz_add (by decide +kernel) rfl kz_1 (by omega) (by omega) (fun z13 hz13 => ?_)
            refine mz_put3 (jj := 83) (by decide +kernel) (by decide +kernel) hc hI (by omega) (by omega) (fun f14 ef14 hIf14 => ?_)
            refine pe_goto (off := (-60)) (t := 195) (by decide +kernel) (by decide) rfl ?_
            have hn_f14 : (f14 3).toInt = ((f 3).toInt + 1) := (congrArg Int32.toInt (show f14 3 = z13 from upf_at ef14)).trans hz13
            exact ih f14 hIf14 (fun k n3 n6 => (upf_fr ef14 n3).trans ((hG k n3 n6))) (by omega)
          · skip
            refine pe_aload_n (j := 0) (by decide +kernel) rfl ?_
            refine pe_bipushv (n := 10) (v := 10) (by decide +kernel) (by decide +kernel) ?_
            refine pe_aload_n (j := 0) (by decide +kernel) rfl ?_
            refine pe_get (j := 109) (ci := 12) (n := 6) (by decide +kernel) (by decide +kernel) (md_o hc) rfl ?_
            refine pw_mul (by decide +kernel) (fun z15 => ?_)
            refine pe_aload_n (j := 0) (by decide +kernel) rfl ?_
            refine pe_aload_n (j := 0) (by decide +kernel) rfl ?_
            refine pe_get (j := 83) (ci := 12) (n := 3) (by decide +kernel) (by decide +kernel) (md_o hc) rfl ?_
            refine pi_V (j := 86) (mj := 202) (by decide +kernel) (cll_V (args := [.int (f 3)]) (n := 1) (by decide +kernel) rfl rfl (md_o hc) (by decide +kernel) (Nat.le_of_ble_eq_true rfl) (Nat.le_of_ble_eq_true rfl)) ?_
            show pmE pg X pg_tyl pg_cl (d + 1) 202 0 [.ref 147, .int (f 3)] [] (md wc f A) _
            refine pe_iload_n (j := 1) (by decide +kernel) rfl ?_
            refine pe_aload_n (j := 0) (by decide +kernel) rfl ?_
            refine pe_get (j := 75) (ci := 12) (n := 2) (by decide +kernel) (by decide +kernel) (md_o hc) rfl ?_
            refine pz_icmp_ge (off := 15) (t := 20) (by decide +kernel) (by decide) rfl rfl rfl (fun h16 => ?_) (fun h16 => ?_)
            · skip
              refine pe_iconstv (n := (-1)) (v := (-1)) (by decide +kernel) (by decide +kernel) ?_
              refine pe_iret (by decide +kernel) rfl rfl ⟨rfl, rfl, ?_⟩
              show pmE pg X pg_tyl pg_cl (d + 2) 201 238 [.ref 147, .int x1, pm_dead] [.int (-1), .int z15, .ref 147] (md wc f A) _
              refine pw_add (by decide +kernel) (fun z17 => ?_)
              refine pe_bipushv (n := 48) (v := 48) (by decide +kernel) (by decide +kernel) ?_
              refine pw_sub (by decide +kernel) (fun z18 => ?_)
              refine mz_put6 (jj := 109) (by decide +kernel) (by decide +kernel) hc hI (fun f19 ef19 hIf19 => ?_)
              refine pe_aload_n (j := 0) (by decide +kernel) rfl ?_
              refine pe_dup (by decide +kernel) rfl ?_
              refine pe_get (j := 83) (ci := 12) (n := 3) (by decide +kernel) (by decide +kernel) (md_o hc) rfl ?_
              refine pe_top (v := (f 3)) (upf_fr ef19 (by decide)) ?_
              refine pe_iconstv (n := 1) (v := 1) (by decide +kernel) (by decide +kernel) ?_
              refine pz_add (by decide +kernel) rfl kz_1 (by omega) (by omega) (fun z20 hz20 => ?_)
              refine mz_put3 (jj := 83) (by decide +kernel) (by decide +kernel) hc hIf19 (by omega) (by omega) (fun f21 ef21 hIf21 => ?_)
              refine pe_goto (off := (-60)) (t := 195) (by decide +kernel) (by decide) rfl ?_
              have hn_f21 : (f21 3).toInt = ((f 3).toInt + 1) := (congrArg Int32.toInt (show f21 3 = z20 from upf_at ef21)).trans hz20
              exact ih f21 hIf21 (fun k n3 n6 => (upf_fr ef21 n3).trans ((upf_fr ef19 n6).trans ((hG k n3 n6)))) (by omega)
            · skip
              refine pe_aload_n (j := 0) (by decide +kernel) rfl ?_
              refine pe_get (j := 7) (ci := 12) (n := 0) (by decide +kernel) (by decide +kernel) (md_o hc) rfl ?_
              refine pe_bipushv (n := 10) (v := 10) (by decide +kernel) (by decide +kernel) ?_
              refine pe_iload_n (j := 1) (by decide +kernel) rfl ?_
              refine pz_add (by decide +kernel) kz_10 rfl (by omega) (by omega) (fun z22 hz22 => ?_)
              refine mz_ld148 (by decide +kernel) hc hI hz22 (by omega) (by omega) (fun v23 ev23 pv23 => ?_)
              rw [ev23.trans ev5.symm]
              clear pv23 ev23 v23
              clear hz22
              refine pe_goto (off := 4) (t := 21) (by decide +kernel) (by decide) rfl ?_
              refine pe_iret (by decide +kernel) rfl rfl ⟨rfl, rfl, ?_⟩
              show pmE pg X pg_tyl pg_cl (d + 2) 201 238 [.ref 147, .int x1, pm_dead] [.int v5, .int z15, .ref 147] (md wc f A) _
              refine pw_add (by decide +kernel) (fun z24 => ?_)
              refine pe_bipushv (n := 48) (v := 48) (by decide +kernel) (by decide +kernel) ?_
              refine pw_sub (by decide +kernel) (fun z25 => ?_)
              refine mz_put6 (jj := 109) (by decide +kernel) (by decide +kernel) hc hI (fun f26 ef26 hIf26 => ?_)
              refine pe_aload_n (j := 0) (by decide +kernel) rfl ?_
              refine pe_dup (by decide +kernel) rfl ?_
              refine pe_get (j := 83) (ci := 12) (n := 3) (by decide +kernel) (by decide +kernel) (md_o hc) rfl ?_
              refine pe_top (v := (f 3)) (upf_fr ef26 (by decide)) ?_
              refine pe_iconstv (n := 1) (v := 1) (by decide +kernel) (by decide +kernel) ?_
              refine pz_add (by decide +kernel) rfl kz_1 (by omega) (by omega) (fun z27 hz27 => ?_)
              refine mz_put3 (jj := 83) (by decide +kernel) (by decide +kernel) hc hIf26 (by omega) (by omega) (fun f28 ef28 hIf28 => ?_)
              refine pe_goto (off := (-60)) (t := 195) (by decide +kernel) (by decide) rfl ?_
              have hn_f28 : (f28 3).toInt = ((f 3).toInt + 1) := (congrArg Int32.toInt (show f28 3 = z27 from upf_at ef28)).trans hz27
              exact ih f28 hIf28 (fun k n3 n6 => (upf_fr ef28 n3).trans ((upf_fr ef26 n6).trans ((hG k n3 n6)))) (by omega)
set_option maxRecDepth 100000 in
set_option maxHeartbeats 8000000 in
theorem ML_201_77 {X : pm_X} {d : Nat} {wc : pm_W} {Q : pm_R → Prop} {A : Nat → List Int32} {f0 : Nat → Int32} {x1 : Int32} (hc : wc.length = 147) (gx1 : (97 ≤ x1.toInt ∧ x1.toInt ≤ 122)) (k_135_0 : ∀ (f' : Nat → Int32) (y2 : Int32), MI f' A → (∀ k : Nat, k ≠ 3 → f' k = f0 k) → pmE pg X pg_tyl pg_cl (d + 2) 201 135 [.ref 147, .int x1, .int y2] [] (md wc f' A) Q) : ∀ (m : Nat) (f : Nat → Int32) (x2 : Int32), MI f A → (∀ k : Nat, k ≠ 3 → f k = f0 k) → 600 - (f 3).toInt < (m : Int) → pmE pg X pg_tyl pg_cl (d + 2) 201 77 [.ref 147, .int x1, .int x2] [] (md wc f A) Q := by
  intro m
  induction m with
  | zero =>
    intro f x2 hI hG hm
    exfalso
    have h := hI.1 3
    simp only [MF] at h
    omega
  | succ m ih =>
    intro f x2 hI hG hm
    refine pe_aload_n (j := 0) (by decide +kernel) rfl ?_
    refine pe_aload_n (j := 0) (by decide +kernel) rfl ?_
    refine pe_get (j := 83) (ci := 12) (n := 3) (by decide +kernel) (by decide +kernel) (md_o hc) rfl ?_
    have hr_3_f := hI.1 3
    simp only [MF] at hr_3_f
    refine pi_V (j := 86) (mj := 202) (by decide +kernel) (cll_V (args := [.int (f 3)]) (n := 1) (by decide +kernel) rfl rfl (md_o hc) (by decide +kernel) (Nat.le_of_ble_eq_true rfl) (Nat.le_of_ble_eq_true rfl)) ?_
    show pmE pg X pg_tyl pg_cl (d + 1) 202 0 [.ref 147, .int (f 3)] [] (md wc f A) _
    refine pe_iload_n (j := 1) (by decide +kernel) rfl ?_
    refine pe_aload_n (j := 0) (by decide +kernel) rfl ?_
    refine pe_get (j := 75) (ci := 12) (n := 2) (by decide +kernel) (by decide +kernel) (md_o hc) rfl ?_
    have hr_2_f := hI.1 2
    simp only [MF] at hr_2_f
    refine pz_icmp_ge (off := 15) (t := 20) (by decide +kernel) (by decide) rfl rfl rfl (fun h1 => ?_) (fun h1 => ?_)
    · skip
      refine pe_iconstv (n := (-1)) (v := (-1)) (by decide +kernel) (by decide +kernel) ?_
      refine pe_iret (by decide +kernel) rfl rfl ⟨rfl, rfl, ?_⟩
      show pmE pg X pg_tyl pg_cl (d + 2) 201 85 [.ref 147, .int x1, .int x2] [.int (-1)] (md wc f A) _
      refine pi_S (j := 96) (mj := 203) (by decide +kernel) (by decide +kernel) rfl ?_
      show pmE pg X pg_tyl pg_cl (d + 1) 203 0 [.int (-1)] [] (md wc f A) _
      refine pe_iload_n (j := 0) (by decide +kernel) rfl ?_
      refine pe_bipushv (n := 97) (v := 97) (by decide +kernel) (by decide +kernel) ?_
      refine pz_icmp_lt (off := 13) (t := 16) (by decide +kernel) (by decide) rfl kz_m1 kz_97 (fun h2 => ?_) (fun h2 => by omega)
      refine pe_iconstv (n := 0) (v := 0) (by decide +kernel) (by decide +kernel) ?_
      refine pe_iret (by decide +kernel) rfl rfl ⟨rfl, rfl, ?_⟩
      show pmE pg X pg_tyl pg_cl (d + 2) 201 88 [.ref 147, .int x1, .int x2] [.int 0] (md wc f A) _
      refine pz_if_eq (off := 47) (t := 135) (by decide +kernel) (by decide) rfl kz_0 (fun h3 => ?_) (fun h3 => by omega)
      exact k_135_0 f x2 hI (fun k n3 => (hG k n3))
    · skip
      refine pe_aload_n (j := 0) (by decide +kernel) rfl ?_
      refine pe_get (j := 7) (ci := 12) (n := 0) (by decide +kernel) (by decide +kernel) (md_o hc) rfl ?_
      refine pe_bipushv (n := 10) (v := 10) (by decide +kernel) (by decide +kernel) ?_
      refine pe_iload_n (j := 1) (by decide +kernel) rfl ?_
      refine pz_add (by decide +kernel) kz_10 rfl (by omega) (by omega) (fun z4 hz4 => ?_)
      refine mz_ld148 (by decide +kernel) hc hI hz4 (by omega) (by omega) (fun v5 ev5 pv5 => ?_)
      clear pv5
      clear hz4
      refine pe_goto (off := 4) (t := 21) (by decide +kernel) (by decide) rfl ?_
      refine pe_iret (by decide +kernel) rfl rfl ⟨rfl, rfl, ?_⟩
      show pmE pg X pg_tyl pg_cl (d + 2) 201 85 [.ref 147, .int x1, .int x2] [.int v5] (md wc f A) _
      refine pi_S (j := 96) (mj := 203) (by decide +kernel) (by decide +kernel) rfl ?_
      show pmE pg X pg_tyl pg_cl (d + 1) 203 0 [.int v5] [] (md wc f A) _
      refine pe_iload_n (j := 0) (by decide +kernel) rfl ?_
      refine pe_bipushv (n := 97) (v := 97) (by decide +kernel) (by decide +kernel) ?_
      refine pz_icmp_lt (off := 13) (t := 16) (by decide +kernel) (by decide) rfl rfl kz_97 (fun h6 => ?_) (fun h6 => ?_)
      · skip
        refine pe_iconstv (n := 0) (v := 0) (by decide +kernel) (by decide +kernel) ?_
        refine pe_iret (by decide +kernel) rfl rfl ⟨rfl, rfl, ?_⟩
        show pmE pg X pg_tyl pg_cl (d + 2) 201 88 [.ref 147, .int x1, .int x2] [.int 0] (md wc f A) _
        refine pz_if_eq (off := 47) (t := 135) (by decide +kernel) (by decide) rfl kz_0 (fun h7 => ?_) (fun h7 => by omega)
        exact k_135_0 f x2 hI (fun k n3 => (hG k n3))
      · skip
        refine pe_iload_n (j := 0) (by decide +kernel) rfl ?_
        refine pe_bipushv (n := 122) (v := 122) (by decide +kernel) (by decide +kernel) ?_
        refine pz_icmp_gt (off := 7) (t := 16) (by decide +kernel) (by decide) rfl rfl kz_122 (fun h8 => ?_) (fun h8 => ?_)
        · skip
          refine pe_iconstv (n := 0) (v := 0) (by decide +kernel) (by decide +kernel) ?_
          refine pe_iret (by decide +kernel) rfl rfl ⟨rfl, rfl, ?_⟩
          show pmE pg X pg_tyl pg_cl (d + 2) 201 88 [.ref 147, .int x1, .int x2] [.int 0] (md wc f A) _
          refine pz_if_eq (off := 47) (t := 135) (by decide +kernel) (by decide) rfl kz_0 (fun h9 => ?_) (fun h9 => by omega)
          exact k_135_0 f x2 hI (fun k n3 => (hG k n3))
        · skip
          refine pe_iconstv (n := 1) (v := 1) (by decide +kernel) (by decide +kernel) ?_
          refine pe_goto (off := 4) (t := 17) (by decide +kernel) (by decide) rfl ?_
          refine pe_iret (by decide +kernel) rfl rfl ⟨rfl, rfl, ?_⟩
          show pmE pg X pg_tyl pg_cl (d + 2) 201 88 [.ref 147, .int x1, .int x2] [.int 1] (md wc f A) _
          refine pz_if_eq (off := 47) (t := 135) (by decide +kernel) (by decide) rfl kz_1 (fun h10 => by omega) (fun h10 => ?_)
          refine pe_aload_n (j := 0) (by decide +kernel) rfl ?_
          refine pe_get (j := 83) (ci := 12) (n := 3) (by decide +kernel) (by decide +kernel) (md_o hc) rfl ?_
          refine pe_aload_n (j := 0) (by decide +kernel) rfl ?_
          refine pe_get (j := 90) (ci := 12) (n := 4) (by decide +kernel) (by decide +kernel) (md_o hc) rfl ?_
          refine pw_sub (by decide +kernel) (fun z11 => ?_)
          refine pe_bipushv (n := 6) (v := 6) (by decide +kernel) (by decide +kernel) ?_
          refine pz_icmp_ge (off := 20) (t := 122) (by decide +kernel) (by decide) rfl rfl kz_6 (fun h12 => ?_) (fun h12 => ?_)
          · skip
            refine pe_aload_n (j := 0) (by decide +kernel) rfl ?_
            refine pe_dup (by decide +kernel) rfl ?_
            refine pe_get (j := 83) (ci := 12) (n := 3) (by decide +kernel) (by decide +kernel) (md_o hc) rfl ?_
            refine pe_iconstv (n := 1) (v := 1) (by decide +kernel) (by decide +kernel) ?_
            refine pz_add (by decide +kernel) rfl kz_1 (by omega) (by omega) (fun z13 hz13 => ?_)
            refine mz_put3 (jj := 83) (by decide +kernel) (by decide +kernel) hc hI (by omega) (by omega) (fun f14 ef14 hIf14 => ?_)
            refine pe_goto (off := (-55)) (t := 77) (by decide +kernel) (by decide) rfl ?_
            have hn_f14 : (f14 3).toInt = ((f 3).toInt + 1) := (congrArg Int32.toInt (show f14 3 = z13 from upf_at ef14)).trans hz13
            exact ih f14 x2 hIf14 (fun k n3 => (upf_fr ef14 n3).trans ((hG k n3))) (by omega)
          · skip
            refine pe_bipushv (n := 32) (v := 32) (by decide +kernel) (by decide +kernel) ?_
            refine pe_iload_n (j := 2) (by decide +kernel) rfl ?_
            refine pw_mul (by decide +kernel) (fun z15 => ?_)
            refine pe_aload_n (j := 0) (by decide +kernel) rfl ?_
            refine pe_aload_n (j := 0) (by decide +kernel) rfl ?_
            refine pe_get (j := 83) (ci := 12) (n := 3) (by decide +kernel) (by decide +kernel) (md_o hc) rfl ?_
            refine pi_V (j := 86) (mj := 202) (by decide +kernel) (cll_V (args := [.int (f 3)]) (n := 1) (by decide +kernel) rfl rfl (md_o hc) (by decide +kernel) (Nat.le_of_ble_eq_true rfl) (Nat.le_of_ble_eq_true rfl)) ?_
            show pmE pg X pg_tyl pg_cl (d + 1) 202 0 [.ref 147, .int (f 3)] [] (md wc f A) _
            refine pe_iload_n (j := 1) (by decide +kernel) rfl ?_
            refine pe_aload_n (j := 0) (by decide +kernel) rfl ?_
            refine pe_get (j := 75) (ci := 12) (n := 2) (by decide +kernel) (by decide +kernel) (md_o hc) rfl ?_
            refine pz_icmp_ge (off := 15) (t := 20) (by decide +kernel) (by decide) rfl rfl rfl (fun h16 => ?_) (fun h16 => ?_)
            · skip
              refine pe_iconstv (n := (-1)) (v := (-1)) (by decide +kernel) (by decide +kernel) ?_
              refine pe_iret (by decide +kernel) rfl rfl ⟨rfl, rfl, ?_⟩
              show pmE pg X pg_tyl pg_cl (d + 2) 201 117 [.ref 147, .int x1, .int x2] [.int (-1), .int z15] (md wc f A) _
              refine pw_add (by decide +kernel) (fun z17 => ?_)
              refine pe_bipushv (n := 96) (v := 96) (by decide +kernel) (by decide +kernel) ?_
              refine pw_sub (by decide +kernel) (fun z18 => ?_)
              refine pe_istore_n (j := 2) (ls' := [.ref 147, .int x1, .int z18]) (by decide +kernel) (Nat.le_of_ble_eq_true rfl) rfl ?_
              refine pe_aload_n (j := 0) (by decide +kernel) rfl ?_
              refine pe_dup (by decide +kernel) rfl ?_
              refine pe_get (j := 83) (ci := 12) (n := 3) (by decide +kernel) (by decide +kernel) (md_o hc) rfl ?_
              refine pe_iconstv (n := 1) (v := 1) (by decide +kernel) (by decide +kernel) ?_
              refine pz_add (by decide +kernel) rfl kz_1 (by omega) (by omega) (fun z19 hz19 => ?_)
              refine mz_put3 (jj := 83) (by decide +kernel) (by decide +kernel) hc hI (by omega) (by omega) (fun f20 ef20 hIf20 => ?_)
              refine pe_goto (off := (-55)) (t := 77) (by decide +kernel) (by decide) rfl ?_
              have hn_f20 : (f20 3).toInt = ((f 3).toInt + 1) := (congrArg Int32.toInt (show f20 3 = z19 from upf_at ef20)).trans hz19
              exact ih f20 z18 hIf20 (fun k n3 => (upf_fr ef20 n3).trans ((hG k n3))) (by omega)
            · skip
              refine pe_aload_n (j := 0) (by decide +kernel) rfl ?_
              refine pe_get (j := 7) (ci := 12) (n := 0) (by decide +kernel) (by decide +kernel) (md_o hc) rfl ?_
              refine pe_bipushv (n := 10) (v := 10) (by decide +kernel) (by decide +kernel) ?_
              refine pe_iload_n (j := 1) (by decide +kernel) rfl ?_
              refine pz_add (by decide +kernel) kz_10 rfl (by omega) (by omega) (fun z21 hz21 => ?_)
              refine mz_ld148 (by decide +kernel) hc hI hz21 (by omega) (by omega) (fun v22 ev22 pv22 => ?_)
              rw [ev22.trans ev5.symm]
              clear pv22 ev22 v22
              clear hz21
              refine pe_goto (off := 4) (t := 21) (by decide +kernel) (by decide) rfl ?_
              refine pe_iret (by decide +kernel) rfl rfl ⟨rfl, rfl, ?_⟩
              show pmE pg X pg_tyl pg_cl (d + 2) 201 117 [.ref 147, .int x1, .int x2] [.int v5, .int z15] (md wc f A) _
              refine pw_add (by decide +kernel) (fun z23 => ?_)
              refine pe_bipushv (n := 96) (v := 96) (by decide +kernel) (by decide +kernel) ?_
              refine pw_sub (by decide +kernel) (fun z24 => ?_)
              refine pe_istore_n (j := 2) (ls' := [.ref 147, .int x1, .int z24]) (by decide +kernel) (Nat.le_of_ble_eq_true rfl) rfl ?_
              refine pe_aload_n (j := 0) (by decide +kernel) rfl ?_
              refine pe_dup (by decide +kernel) rfl ?_
              refine pe_get (j := 83) (ci := 12) (n := 3) (by decide +kernel) (by decide +kernel) (md_o hc) rfl ?_
              refine pe_iconstv (n := 1) (v := 1) (by decide +kernel) (by decide +kernel) ?_
              refine pz_add (by decide +kernel) rfl kz_1 (by omega) (by omega) (fun z25 hz25 => ?_)
              refine mz_put3 (jj := 83) (by decide +kernel) (by decide +kernel) hc hI (by omega) (by omega) (fun f26 ef26 hIf26 => ?_)
              refine pe_goto (off := (-55)) (t := 77) (by decide +kernel) (by decide) rfl ?_
              have hn_f26 : (f26 3).toInt = ((f 3).toInt + 1) := (congrArg Int32.toInt (show f26 3 = z25 from upf_at ef26)).trans hz25
              exact ih f26 z24 hIf26 (fun k n3 => (upf_fr ef26 n3).trans ((hG k n3))) (by omega)
set_option maxRecDepth 100000 in
set_option maxHeartbeats 8000000 in
theorem ML_201_0 {X : pm_X} {d : Nat} {wc : pm_W} {Q : pm_R → Prop} {A : Nat → List Int32} {f0 : Nat → Int32} (hc : wc.length = 147) (k_39_0 : ∀ (f' : Nat → Int32), MI f' A → (∀ k : Nat, k ≠ 3 → f' k = f0 k) → pmE pg X pg_tyl pg_cl (d + 2) 201 39 [.ref 147, pm_dead, pm_dead] [] (md wc f' A) Q) : ∀ (m : Nat) (f : Nat → Int32), MI f A → (∀ k : Nat, k ≠ 3 → f k = f0 k) → 600 - (f 3).toInt < (m : Int) → pmE pg X pg_tyl pg_cl (d + 2) 201 0 [.ref 147, pm_dead, pm_dead] [] (md wc f A) Q := by
  intro m
  induction m with
  | zero =>
    intro f hI hG hm
    exfalso
    have h := hI.1 3
    simp only [MF] at h
    omega
  | succ m ih =>
    intro f hI hG hm
    refine pe_aload_n (j := 0) (by decide +kernel) rfl ?_
    refine pe_aload_n (j := 0) (by decide +kernel) rfl ?_
    refine pe_get (j := 83) (ci := 12) (n := 3) (by decide +kernel) (by decide +kernel) (md_o hc) rfl ?_
    have hr_3_f := hI.1 3
    simp only [MF] at hr_3_f
    refine pi_V (j := 86) (mj := 202) (by decide +kernel) (cll_V (args := [.int (f 3)]) (n := 1) (by decide +kernel) rfl rfl (md_o hc) (by decide +kernel) (Nat.le_of_ble_eq_true rfl) (Nat.le_of_ble_eq_true rfl)) ?_
    show pmE pg X pg_tyl pg_cl (d + 1) 202 0 [.ref 147, .int (f 3)] [] (md wc f A) _
    refine pe_iload_n (j := 1) (by decide +kernel) rfl ?_
    refine pe_aload_n (j := 0) (by decide +kernel) rfl ?_
    refine pe_get (j := 75) (ci := 12) (n := 2) (by decide +kernel) (by decide +kernel) (md_o hc) rfl ?_
    have hr_2_f := hI.1 2
    simp only [MF] at hr_2_f
    refine pz_icmp_ge (off := 15) (t := 20) (by decide +kernel) (by decide) rfl rfl rfl (fun h1 => ?_) (fun h1 => ?_)
    · skip
      refine pe_iconstv (n := (-1)) (v := (-1)) (by decide +kernel) (by decide +kernel) ?_
      refine pe_iret (by decide +kernel) rfl rfl ⟨rfl, rfl, ?_⟩
      show pmE pg X pg_tyl pg_cl (d + 2) 201 8 [.ref 147, pm_dead, pm_dead] [.int (-1)] (md wc f A) _
      refine pe_bipushv (n := 10) (v := 10) (by decide +kernel) (by decide +kernel) ?_
      refine pz_icmp_eq (off := 16) (t := 26) (by decide +kernel) (by decide) rfl kz_m1 kz_10 (fun h2 => by omega) (fun h2 => ?_)
      refine pe_aload_n (j := 0) (by decide +kernel) rfl ?_
      refine pe_aload_n (j := 0) (by decide +kernel) rfl ?_
      refine pe_get (j := 83) (ci := 12) (n := 3) (by decide +kernel) (by decide +kernel) (md_o hc) rfl ?_
      refine pi_V (j := 86) (mj := 202) (by decide +kernel) (cll_V (args := [.int (f 3)]) (n := 1) (by decide +kernel) rfl rfl (md_o hc) (by decide +kernel) (Nat.le_of_ble_eq_true rfl) (Nat.le_of_ble_eq_true rfl)) ?_
      show pmE pg X pg_tyl pg_cl (d + 1) 202 0 [.ref 147, .int (f 3)] [] (md wc f A) _
      refine pe_iload_n (j := 1) (by decide +kernel) rfl ?_
      refine pe_aload_n (j := 0) (by decide +kernel) rfl ?_
      refine pe_get (j := 75) (ci := 12) (n := 2) (by decide +kernel) (by decide +kernel) (md_o hc) rfl ?_
      refine pz_icmp_ge (off := 15) (t := 20) (by decide +kernel) (by decide) rfl rfl rfl (fun h3 => ?_) (fun h3 => ?_)
      · skip
        refine pe_iconstv (n := (-1)) (v := (-1)) (by decide +kernel) (by decide +kernel) ?_
        refine pe_iret (by decide +kernel) rfl rfl ⟨rfl, rfl, ?_⟩
        show pmE pg X pg_tyl pg_cl (d + 2) 201 21 [.ref 147, pm_dead, pm_dead] [.int (-1)] (md wc f A) _
        refine pe_bipushv (n := 32) (v := 32) (by decide +kernel) (by decide +kernel) ?_
        refine pz_icmp_ne (off := 16) (t := 39) (by decide +kernel) (by decide) rfl kz_m1 kz_32 (fun h4 => ?_) (fun h4 => by omega)
        exact k_39_0 f hI (fun k n3 => (hG k n3))
      · skip
        refine pe_aload_n (j := 0) (by decide +kernel) rfl ?_
        refine pe_get (j := 7) (ci := 12) (n := 0) (by decide +kernel) (by decide +kernel) (md_o hc) rfl ?_
        refine pe_bipushv (n := 10) (v := 10) (by decide +kernel) (by decide +kernel) ?_
        refine pe_iload_n (j := 1) (by decide +kernel) rfl ?_
        refine pz_add (by decide +kernel) kz_10 rfl (by omega) (by omega) (fun z5 hz5 => ?_)
        refine mz_ld148 (by decide +kernel) hc hI hz5 (by omega) (by omega) (fun v6 ev6 pv6 => ?_)
        clear pv6
        clear hz5
        refine pe_goto (off := 4) (t := 21) (by decide +kernel) (by decide) rfl ?_
        refine pe_iret (by decide +kernel) rfl rfl ⟨rfl, rfl, ?_⟩
        show pmE pg X pg_tyl pg_cl (d + 2) 201 21 [.ref 147, pm_dead, pm_dead] [.int v6] (md wc f A) _
        refine pe_bipushv (n := 32) (v := 32) (by decide +kernel) (by decide +kernel) ?_
        refine pz_icmp_ne (off := 16) (t := 39) (by decide +kernel) (by decide) rfl rfl kz_32 (fun h7 => ?_) (fun h7 => ?_)
        · skip
          exact k_39_0 f hI (fun k n3 => (hG k n3))
        · skip
          refine pe_aload_n (j := 0) (by decide +kernel) rfl ?_
          refine pe_dup (by decide +kernel) rfl ?_
          refine pe_get (j := 83) (ci := 12) (n := 3) (by decide +kernel) (by decide +kernel) (md_o hc) rfl ?_
          refine pe_iconstv (n := 1) (v := 1) (by decide +kernel) (by decide +kernel) ?_
          refine pz_add (by decide +kernel) rfl kz_1 (by omega) (by omega) (fun z8 hz8 => ?_)
          refine mz_put3 (jj := 83) (by decide +kernel) (by decide +kernel) hc hI (by omega) (by omega) (fun f9 ef9 hIf9 => ?_)
          refine pe_goto (off := (-36)) (t := 0) (by decide +kernel) (by decide) rfl ?_
          have hn_f9 : (f9 3).toInt = ((f 3).toInt + 1) := (congrArg Int32.toInt (show f9 3 = z8 from upf_at ef9)).trans hz8
          exact ih f9 hIf9 (fun k n3 => (upf_fr ef9 n3).trans ((hG k n3))) (by omega)
    · skip
      refine pe_aload_n (j := 0) (by decide +kernel) rfl ?_
      refine pe_get (j := 7) (ci := 12) (n := 0) (by decide +kernel) (by decide +kernel) (md_o hc) rfl ?_
      refine pe_bipushv (n := 10) (v := 10) (by decide +kernel) (by decide +kernel) ?_
      refine pe_iload_n (j := 1) (by decide +kernel) rfl ?_
      refine pz_add (by decide +kernel) kz_10 rfl (by omega) (by omega) (fun z10 hz10 => ?_)
      refine mz_ld148 (by decide +kernel) hc hI hz10 (by omega) (by omega) (fun v11 ev11 pv11 => ?_)
      clear pv11
      clear hz10
      refine pe_goto (off := 4) (t := 21) (by decide +kernel) (by decide) rfl ?_
      refine pe_iret (by decide +kernel) rfl rfl ⟨rfl, rfl, ?_⟩
      show pmE pg X pg_tyl pg_cl (d + 2) 201 8 [.ref 147, pm_dead, pm_dead] [.int v11] (md wc f A) _
      refine pe_bipushv (n := 10) (v := 10) (by decide +kernel) (by decide +kernel) ?_
      refine pz_icmp_eq (off := 16) (t := 26) (by decide +kernel) (by decide) rfl rfl kz_10 (fun h12 => ?_) (fun h12 => ?_)
      · skip
        refine pe_aload_n (j := 0) (by decide +kernel) rfl ?_
        refine pe_dup (by decide +kernel) rfl ?_
        refine pe_get (j := 83) (ci := 12) (n := 3) (by decide +kernel) (by decide +kernel) (md_o hc) rfl ?_
        refine pe_iconstv (n := 1) (v := 1) (by decide +kernel) (by decide +kernel) ?_
        refine pz_add (by decide +kernel) rfl kz_1 (by omega) (by omega) (fun z13 hz13 => ?_)
        refine mz_put3 (jj := 83) (by decide +kernel) (by decide +kernel) hc hI (by omega) (by omega) (fun f14 ef14 hIf14 => ?_)
        refine pe_goto (off := (-36)) (t := 0) (by decide +kernel) (by decide) rfl ?_
        have hn_f14 : (f14 3).toInt = ((f 3).toInt + 1) := (congrArg Int32.toInt (show f14 3 = z13 from upf_at ef14)).trans hz13
        exact ih f14 hIf14 (fun k n3 => (upf_fr ef14 n3).trans ((hG k n3))) (by omega)
      · skip
        refine pe_aload_n (j := 0) (by decide +kernel) rfl ?_
        refine pe_aload_n (j := 0) (by decide +kernel) rfl ?_
        refine pe_get (j := 83) (ci := 12) (n := 3) (by decide +kernel) (by decide +kernel) (md_o hc) rfl ?_
        refine pi_V (j := 86) (mj := 202) (by decide +kernel) (cll_V (args := [.int (f 3)]) (n := 1) (by decide +kernel) rfl rfl (md_o hc) (by decide +kernel) (Nat.le_of_ble_eq_true rfl) (Nat.le_of_ble_eq_true rfl)) ?_
        show pmE pg X pg_tyl pg_cl (d + 1) 202 0 [.ref 147, .int (f 3)] [] (md wc f A) _
        refine pe_iload_n (j := 1) (by decide +kernel) rfl ?_
        refine pe_aload_n (j := 0) (by decide +kernel) rfl ?_
        refine pe_get (j := 75) (ci := 12) (n := 2) (by decide +kernel) (by decide +kernel) (md_o hc) rfl ?_
        refine pz_icmp_ge (off := 15) (t := 20) (by decide +kernel) (by decide) rfl rfl rfl (fun h15 => ?_) (fun h15 => ?_)
        · skip
          refine pe_iconstv (n := (-1)) (v := (-1)) (by decide +kernel) (by decide +kernel) ?_
          refine pe_iret (by decide +kernel) rfl rfl ⟨rfl, rfl, ?_⟩
          show pmE pg X pg_tyl pg_cl (d + 2) 201 21 [.ref 147, pm_dead, pm_dead] [.int (-1)] (md wc f A) _
          refine pe_bipushv (n := 32) (v := 32) (by decide +kernel) (by decide +kernel) ?_
          refine pz_icmp_ne (off := 16) (t := 39) (by decide +kernel) (by decide) rfl kz_m1 kz_32 (fun h16 => ?_) (fun h16 => by omega)
          exact k_39_0 f hI (fun k n3 => (hG k n3))
        · skip
          refine pe_aload_n (j := 0) (by decide +kernel) rfl ?_
          refine pe_get (j := 7) (ci := 12) (n := 0) (by decide +kernel) (by decide +kernel) (md_o hc) rfl ?_
          refine pe_bipushv (n := 10) (v := 10) (by decide +kernel) (by decide +kernel) ?_
          refine pe_iload_n (j := 1) (by decide +kernel) rfl ?_
          refine pz_add (by decide +kernel) kz_10 rfl (by omega) (by omega) (fun z17 hz17 => ?_)
          refine mz_ld148 (by decide +kernel) hc hI hz17 (by omega) (by omega) (fun v18 ev18 pv18 => ?_)
          rw [ev18.trans ev11.symm]
          clear pv18 ev18 v18
          clear hz17
          refine pe_goto (off := 4) (t := 21) (by decide +kernel) (by decide) rfl ?_
          refine pe_iret (by decide +kernel) rfl rfl ⟨rfl, rfl, ?_⟩
          show pmE pg X pg_tyl pg_cl (d + 2) 201 21 [.ref 147, pm_dead, pm_dead] [.int v11] (md wc f A) _
          refine pe_bipushv (n := 32) (v := 32) (by decide +kernel) (by decide +kernel) ?_
          refine pz_icmp_ne (off := 16) (t := 39) (by decide +kernel) (by decide) rfl rfl kz_32 (fun h19 => ?_) (fun h19 => ?_)
          · skip
            exact k_39_0 f hI (fun k n3 => (hG k n3))
          · skip
            refine pe_aload_n (j := 0) (by decide +kernel) rfl ?_
            refine pe_dup (by decide +kernel) rfl ?_
            refine pe_get (j := 83) (ci := 12) (n := 3) (by decide +kernel) (by decide +kernel) (md_o hc) rfl ?_
            refine pe_iconstv (n := 1) (v := 1) (by decide +kernel) (by decide +kernel) ?_
            refine pz_add (by decide +kernel) rfl kz_1 (by omega) (by omega) (fun z20 hz20 => ?_)
            refine mz_put3 (jj := 83) (by decide +kernel) (by decide +kernel) hc hI (by omega) (by omega) (fun f21 ef21 hIf21 => ?_)
            refine pe_goto (off := (-36)) (t := 0) (by decide +kernel) (by decide) rfl ?_
            have hn_f21 : (f21 3).toInt = ((f 3).toInt + 1) := (congrArg Int32.toInt (show f21 3 = z20 from upf_at ef21)).trans hz20
            exact ih f21 hIf21 (fun k n3 => (upf_fr ef21 n3).trans ((hG k n3))) (by omega)
set_option maxRecDepth 100000 in
set_option maxHeartbeats 8000000 in
theorem MM_201 {X : pm_X} {d : Nat} {wc : pm_W} {f : Nat → Int32} {A : Nat → List Int32} (hc : wc.length = 147) (hI : MI f A) : pmE pg X pg_tyl pg_cl (d + 2) 201 0 (pm_ent (pm_max pg 201) [.ref 147]) [] (md wc f A) (fun q => ∃ (f' : Nat → Int32), q = (none, md wc f' A, 0, 0) ∧ MI f' A ∧ (∀ k : Nat, k ≠ 3 → k ≠ 4 → k ≠ 5 → k ≠ 6 → k ≠ 7 → f' k = f k) ∧ ((True))) := by
  show pmE pg X pg_tyl pg_cl (d + 2) 201 0 [.ref 147, pm_dead, pm_dead] [] (md wc f A) _
  refine ML_201_0 hc (fun f1 hIy2 hGhIy2 => ?_) 601 f hI (fun k _ => rfl) (by have h := hI.1 3; simp only [MF] at h; omega)
  refine pe_aload_n (j := 0) (by decide +kernel) rfl ?_
  refine pe_aload_n (j := 0) (by decide +kernel) rfl ?_
  refine pe_get (j := 83) (ci := 12) (n := 3) (by decide +kernel) (by decide +kernel) (md_o hc) rfl ?_
  have hr_3_f1 := hIy2.1 3
  simp only [MF] at hr_3_f1
  refine mz_put4 (jj := 90) (by decide +kernel) (by decide +kernel) hc hIy2 (fun f3 ef3 hIf3 => ?_)
  refine pe_aload_n (j := 0) (by decide +kernel) rfl ?_
  refine pe_aload_n (j := 0) (by decide +kernel) rfl ?_
  refine pe_get (j := 83) (ci := 12) (n := 3) (by decide +kernel) (by decide +kernel) (md_o hc) rfl ?_
  refine pe_top (v := (f1 3)) (upf_fr ef3 (by decide)) ?_
  refine pi_V (j := 86) (mj := 202) (by decide +kernel) (cll_V (args := [.int (f1 3)]) (n := 1) (by decide +kernel) rfl rfl (md_o hc) (by decide +kernel) (Nat.le_of_ble_eq_true rfl) (Nat.le_of_ble_eq_true rfl)) ?_
  show pmE pg X pg_tyl pg_cl (d + 1) 202 0 [.ref 147, .int (f1 3)] [] (md wc f3 A) _
  refine pe_iload_n (j := 1) (by decide +kernel) rfl ?_
  refine pe_aload_n (j := 0) (by decide +kernel) rfl ?_
  refine pe_get (j := 75) (ci := 12) (n := 2) (by decide +kernel) (by decide +kernel) (md_o hc) rfl ?_
  have hr_2_f := hI.1 2
  simp only [MF] at hr_2_f
  refine pe_top (v := (f 2)) ((upf_fr ef3 (by decide)).trans ((hGhIy2 2 (by decide)))) ?_
  refine pz_icmp_ge (off := 15) (t := 20) (by decide +kernel) (by decide) rfl rfl rfl (fun h4 => ?_) (fun h4 => ?_)
  · skip
    refine pe_iconstv (n := (-1)) (v := (-1)) (by decide +kernel) (by decide +kernel) ?_
    refine pe_iret (by decide +kernel) rfl rfl ⟨rfl, rfl, ?_⟩
    show pmE pg X pg_tyl pg_cl (d + 2) 201 55 [.ref 147, pm_dead, pm_dead] [.int (-1)] (md wc f3 A) _
    refine pe_istore_n (j := 1) (ls' := [.ref 147, .int (-1), pm_dead]) (by decide +kernel) (Nat.le_of_ble_eq_true rfl) rfl ?_
    refine pe_iload_n (j := 1) (by decide +kernel) rfl ?_
    refine pz_if_ge (off := 11) (t := 68) (by decide +kernel) (by decide) rfl kz_m1 (fun h5 => by omega) (fun h5 => ?_)
    refine pe_aload_n (j := 0) (by decide +kernel) rfl ?_
    refine pe_iconstv (n := 0) (v := 0) (by decide +kernel) (by decide +kernel) ?_
    refine mz_put5 (jj := 93) (by decide +kernel) (by decide +kernel) hc hIf3 (by decide +kernel) (by decide +kernel) (fun f6 ef6 hIf6 => ?_)
    refine pe_goto (off := 243) (t := 308) (by decide +kernel) (by decide) rfl ?_
    exact pe_vret (by decide +kernel) rfl ⟨f6, rfl, hIf6, (fun k n3 n4 n5 n6 n7 => (upf_fr ef6 n5).trans ((upf_fr ef3 n4).trans ((hGhIy2 k n3)))), trivial⟩
  · skip
    refine pe_aload_n (j := 0) (by decide +kernel) rfl ?_
    refine pe_get (j := 7) (ci := 12) (n := 0) (by decide +kernel) (by decide +kernel) (md_o hc) rfl ?_
    refine pe_bipushv (n := 10) (v := 10) (by decide +kernel) (by decide +kernel) ?_
    refine pe_iload_n (j := 1) (by decide +kernel) rfl ?_
    refine pz_add (by decide +kernel) kz_10 rfl (by omega) (by omega) (fun z7 hz7 => ?_)
    refine mz_ld148 (by decide +kernel) hc hIf3 hz7 (by omega) (by omega) (fun v8 ev8 pv8 => ?_)
    clear pv8
    clear hz7
    refine pe_goto (off := 4) (t := 21) (by decide +kernel) (by decide) rfl ?_
    refine pe_iret (by decide +kernel) rfl rfl ⟨rfl, rfl, ?_⟩
    show pmE pg X pg_tyl pg_cl (d + 2) 201 55 [.ref 147, pm_dead, pm_dead] [.int v8] (md wc f3 A) _
    refine pe_istore_n (j := 1) (ls' := [.ref 147, .int v8, pm_dead]) (by decide +kernel) (Nat.le_of_ble_eq_true rfl) rfl ?_
    refine pe_iload_n (j := 1) (by decide +kernel) rfl ?_
    refine pz_if_ge (off := 11) (t := 68) (by decide +kernel) (by decide) rfl rfl (fun h9 => ?_) (fun h9 => ?_)
    · skip
      refine pe_iload_n (j := 1) (by decide +kernel) rfl ?_
      refine pi_S (j := 96) (mj := 203) (by decide +kernel) (by decide +kernel) rfl ?_
      show pmE pg X pg_tyl pg_cl (d + 1) 203 0 [.int v8] [] (md wc f3 A) _
      refine pe_iload_n (j := 0) (by decide +kernel) rfl ?_
      refine pe_bipushv (n := 97) (v := 97) (by decide +kernel) (by decide +kernel) ?_
      refine pz_icmp_lt (off := 13) (t := 16) (by decide +kernel) (by decide) rfl rfl kz_97 (fun h10 => ?_) (fun h10 => ?_)
      · skip
        refine pe_iconstv (n := 0) (v := 0) (by decide +kernel) (by decide +kernel) ?_
        refine pe_iret (by decide +kernel) rfl rfl ⟨rfl, rfl, ?_⟩
        show pmE pg X pg_tyl pg_cl (d + 2) 201 72 [.ref 147, .int v8, pm_dead] [.int 0] (md wc f3 A) _
        refine pz_if_eq (off := 111) (t := 183) (by decide +kernel) (by decide) rfl kz_0 (fun h11 => ?_) (fun h11 => by omega)
        refine pe_iload_n (j := 1) (by decide +kernel) rfl ?_
        refine pi_S (j := 106) (mj := 206) (by decide +kernel) (by decide +kernel) rfl ?_
        show pmE pg X pg_tyl pg_cl (d + 1) 206 0 [.int v8] [] (md wc f3 A) _
        refine pe_iload_n (j := 0) (by decide +kernel) rfl ?_
        refine pe_bipushv (n := 48) (v := 48) (by decide +kernel) (by decide +kernel) ?_
        refine pz_icmp_lt (off := 13) (t := 16) (by decide +kernel) (by decide) rfl rfl kz_48 (fun h12 => ?_) (fun h12 => ?_)
        · skip
          refine pe_iconstv (n := 0) (v := 0) (by decide +kernel) (by decide +kernel) ?_
          refine pe_iret (by decide +kernel) rfl rfl ⟨rfl, rfl, ?_⟩
          show pmE pg X pg_tyl pg_cl (d + 2) 201 187 [.ref 147, .int v8, pm_dead] [.int 0] (md wc f3 A) _
          refine pz_if_eq (off := 96) (t := 283) (by decide +kernel) (by decide) rfl kz_0 (fun h13 => ?_) (fun h13 => by omega)
          refine pe_aload_n (j := 0) (by decide +kernel) rfl ?_
          refine pe_dup (by decide +kernel) rfl ?_
          refine pe_get (j := 83) (ci := 12) (n := 3) (by decide +kernel) (by decide +kernel) (md_o hc) rfl ?_
          refine pe_top (v := (f1 3)) (upf_fr ef3 (by decide)) ?_
          refine pe_iconstv (n := 1) (v := 1) (by decide +kernel) (by decide +kernel) ?_
          refine pz_add (by decide +kernel) rfl kz_1 (by omega) (by omega) (fun z14 hz14 => ?_)
          refine mz_put3 (jj := 83) (by decide +kernel) (by decide +kernel) hc hIf3 (by omega) (by omega) (fun f15 ef15 hIf15 => ?_)
          refine pe_aload_n (j := 0) (by decide +kernel) rfl ?_
          refine pe_iload_n (j := 1) (by decide +kernel) rfl ?_
          refine pe_bipushv (n := 59) (v := 59) (by decide +kernel) (by decide +kernel) ?_
          refine pz_icmp_ne (off := 7) (t := 304) (by decide +kernel) (by decide) rfl rfl kz_59 (fun h16 => ?_) (fun h16 => by omega)
          refine pe_iconstv (n := 4) (v := 4) (by decide +kernel) (by decide +kernel) ?_
          refine mz_put5 (jj := 93) (by decide +kernel) (by decide +kernel) hc hIf15 (by decide +kernel) (by decide +kernel) (fun f17 ef17 hIf17 => ?_)
          exact pe_vret (by decide +kernel) rfl ⟨f17, rfl, hIf17, (fun k n3 n4 n5 n6 n7 => (upf_fr ef17 n5).trans ((upf_fr ef15 n3).trans ((upf_fr ef3 n4).trans ((hGhIy2 k n3))))), trivial⟩
        · skip
          refine pe_iload_n (j := 0) (by decide +kernel) rfl ?_
          refine pe_bipushv (n := 57) (v := 57) (by decide +kernel) (by decide +kernel) ?_
          refine pz_icmp_gt (off := 7) (t := 16) (by decide +kernel) (by decide) rfl rfl kz_57 (fun h18 => ?_) (fun h18 => ?_)
          · skip
            refine pe_iconstv (n := 0) (v := 0) (by decide +kernel) (by decide +kernel) ?_
            refine pe_iret (by decide +kernel) rfl rfl ⟨rfl, rfl, ?_⟩
            show pmE pg X pg_tyl pg_cl (d + 2) 201 187 [.ref 147, .int v8, pm_dead] [.int 0] (md wc f3 A) _
            refine pz_if_eq (off := 96) (t := 283) (by decide +kernel) (by decide) rfl kz_0 (fun h19 => ?_) (fun h19 => by omega)
            refine pe_aload_n (j := 0) (by decide +kernel) rfl ?_
            refine pe_dup (by decide +kernel) rfl ?_
            refine pe_get (j := 83) (ci := 12) (n := 3) (by decide +kernel) (by decide +kernel) (md_o hc) rfl ?_
            refine pe_top (v := (f1 3)) (upf_fr ef3 (by decide)) ?_
            refine pe_iconstv (n := 1) (v := 1) (by decide +kernel) (by decide +kernel) ?_
            refine pz_add (by decide +kernel) rfl kz_1 (by omega) (by omega) (fun z20 hz20 => ?_)
            refine mz_put3 (jj := 83) (by decide +kernel) (by decide +kernel) hc hIf3 (by omega) (by omega) (fun f21 ef21 hIf21 => ?_)
            refine pe_aload_n (j := 0) (by decide +kernel) rfl ?_
            refine pe_iload_n (j := 1) (by decide +kernel) rfl ?_
            refine pe_bipushv (n := 59) (v := 59) (by decide +kernel) (by decide +kernel) ?_
            refine pz_icmp_ne (off := 7) (t := 304) (by decide +kernel) (by decide) rfl rfl kz_59 (fun h22 => ?_) (fun h22 => ?_)
            · skip
              refine pe_iconstv (n := 4) (v := 4) (by decide +kernel) (by decide +kernel) ?_
              refine mz_put5 (jj := 93) (by decide +kernel) (by decide +kernel) hc hIf21 (by decide +kernel) (by decide +kernel) (fun f23 ef23 hIf23 => ?_)
              exact pe_vret (by decide +kernel) rfl ⟨f23, rfl, hIf23, (fun k n3 n4 n5 n6 n7 => (upf_fr ef23 n5).trans ((upf_fr ef21 n3).trans ((upf_fr ef3 n4).trans ((hGhIy2 k n3))))), trivial⟩
            · skip
              refine pe_iconstv (n := 2) (v := 2) (by decide +kernel) (by decide +kernel) ?_
              refine pe_goto (off := 4) (t := 305) (by decide +kernel) (by decide) rfl ?_
              refine mz_put5 (jj := 93) (by decide +kernel) (by decide +kernel) hc hIf21 (by decide +kernel) (by decide +kernel) (fun f24 ef24 hIf24 => ?_)
              exact pe_vret (by decide +kernel) rfl ⟨f24, rfl, hIf24, (fun k n3 n4 n5 n6 n7 => (upf_fr ef24 n5).trans ((upf_fr ef21 n3).trans ((upf_fr ef3 n4).trans ((hGhIy2 k n3))))), trivial⟩
          · skip
            refine pe_iconstv (n := 1) (v := 1) (by decide +kernel) (by decide +kernel) ?_
            refine pe_goto (off := 4) (t := 17) (by decide +kernel) (by decide) rfl ?_
            refine pe_iret (by decide +kernel) rfl rfl ⟨rfl, rfl, ?_⟩
            show pmE pg X pg_tyl pg_cl (d + 2) 201 187 [.ref 147, .int v8, pm_dead] [.int 1] (md wc f3 A) _
            refine pz_if_eq (off := 96) (t := 283) (by decide +kernel) (by decide) rfl kz_1 (fun h25 => by omega) (fun h25 => ?_)
            refine pe_aload_n (j := 0) (by decide +kernel) rfl ?_
            refine pe_iconstv (n := 0) (v := 0) (by decide +kernel) (by decide +kernel) ?_
            refine mz_put6 (jj := 109) (by decide +kernel) (by decide +kernel) hc hIf3 (fun f26 ef26 hIf26 => ?_)
            refine ML_201_195 hc (by omega) (fun f27 hIy28 hGhIy28 => ?_) 601 f26 hIf26 (fun k _ _ => rfl) (by have h := hIf26.1 3; simp only [MF] at h; omega)
            refine pe_aload_n (j := 0) (by decide +kernel) rfl ?_
            refine pe_aload_n (j := 0) (by decide +kernel) rfl ?_
            refine pe_get (j := 83) (ci := 12) (n := 3) (by decide +kernel) (by decide +kernel) (md_o hc) rfl ?_
            have hr_3_f27 := hIy28.1 3
            simp only [MF] at hr_3_f27
            refine pe_aload_n (j := 0) (by decide +kernel) rfl ?_
            refine pe_get (j := 90) (ci := 12) (n := 4) (by decide +kernel) (by decide +kernel) (md_o hc) rfl ?_
            refine pe_top (v := (f1 3)) (((hGhIy28 4 (by decide) (by decide))).trans ((upf_fr ef26 (by decide)).trans (upf_at ef3))) ?_
            refine pz_sub (by decide +kernel) rfl rfl (by omega) (by omega) (fun z29 hz29 => ?_)
            refine pe_iconstv (n := 2) (v := 2) (by decide +kernel) (by decide +kernel) ?_
            refine pz_icmp_le (off := 7) (t := 276) (by decide +kernel) (by decide) rfl hz29 kz_2 (fun h30 => ?_) (fun h30 => ?_)
            · skip
              clear hz29
              refine pe_iconstv (n := 1) (v := 1) (by decide +kernel) (by decide +kernel) ?_
              refine mz_put5 (jj := 93) (by decide +kernel) (by decide +kernel) hc hIy28 (by decide +kernel) (by decide +kernel) (fun f31 ef31 hIf31 => ?_)
              refine pe_goto (off := 28) (t := 308) (by decide +kernel) (by decide) rfl ?_
              exact pe_vret (by decide +kernel) rfl ⟨f31, rfl, hIf31, (fun k n3 n4 n5 n6 n7 => (upf_fr ef31 n5).trans (((hGhIy28 k n3 n6)).trans ((upf_fr ef26 n6).trans ((upf_fr ef3 n4).trans ((hGhIy2 k n3)))))), trivial⟩
            · skip
              clear hz29
              refine pe_iconstv (n := 4) (v := 4) (by decide +kernel) (by decide +kernel) ?_
              refine pe_goto (off := 4) (t := 277) (by decide +kernel) (by decide) rfl ?_
              refine mz_put5 (jj := 93) (by decide +kernel) (by decide +kernel) hc hIy28 (by decide +kernel) (by decide +kernel) (fun f32 ef32 hIf32 => ?_)
              refine pe_goto (off := 28) (t := 308) (by decide +kernel) (by decide) rfl ?_
              exact pe_vret (by decide +kernel) rfl ⟨f32, rfl, hIf32, (fun k n3 n4 n5 n6 n7 => (upf_fr ef32 n5).trans (((hGhIy28 k n3 n6)).trans ((upf_fr ef26 n6).trans ((upf_fr ef3 n4).trans ((hGhIy2 k n3)))))), trivial⟩
      · skip
        refine pe_iload_n (j := 0) (by decide +kernel) rfl ?_
        refine pe_bipushv (n := 122) (v := 122) (by decide +kernel) (by decide +kernel) ?_
        refine pz_icmp_gt (off := 7) (t := 16) (by decide +kernel) (by decide) rfl rfl kz_122 (fun h33 => ?_) (fun h33 => ?_)
        · skip
          refine pe_iconstv (n := 0) (v := 0) (by decide +kernel) (by decide +kernel) ?_
          refine pe_iret (by decide +kernel) rfl rfl ⟨rfl, rfl, ?_⟩
          show pmE pg X pg_tyl pg_cl (d + 2) 201 72 [.ref 147, .int v8, pm_dead] [.int 0] (md wc f3 A) _
          refine pz_if_eq (off := 111) (t := 183) (by decide +kernel) (by decide) rfl kz_0 (fun h34 => ?_) (fun h34 => by omega)
          refine pe_iload_n (j := 1) (by decide +kernel) rfl ?_
          refine pi_S (j := 106) (mj := 206) (by decide +kernel) (by decide +kernel) rfl ?_
          show pmE pg X pg_tyl pg_cl (d + 1) 206 0 [.int v8] [] (md wc f3 A) _
          refine pe_iload_n (j := 0) (by decide +kernel) rfl ?_
          refine pe_bipushv (n := 48) (v := 48) (by decide +kernel) (by decide +kernel) ?_
          refine pz_icmp_lt (off := 13) (t := 16) (by decide +kernel) (by decide) rfl rfl kz_48 (fun h35 => by omega) (fun h35 => ?_)
          refine pe_iload_n (j := 0) (by decide +kernel) rfl ?_
          refine pe_bipushv (n := 57) (v := 57) (by decide +kernel) (by decide +kernel) ?_
          refine pz_icmp_gt (off := 7) (t := 16) (by decide +kernel) (by decide) rfl rfl kz_57 (fun h36 => ?_) (fun h36 => by omega)
          refine pe_iconstv (n := 0) (v := 0) (by decide +kernel) (by decide +kernel) ?_
          refine pe_iret (by decide +kernel) rfl rfl ⟨rfl, rfl, ?_⟩
          show pmE pg X pg_tyl pg_cl (d + 2) 201 187 [.ref 147, .int v8, pm_dead] [.int 0] (md wc f3 A) _
          refine pz_if_eq (off := 96) (t := 283) (by decide +kernel) (by decide) rfl kz_0 (fun h37 => ?_) (fun h37 => by omega)
          refine pe_aload_n (j := 0) (by decide +kernel) rfl ?_
          refine pe_dup (by decide +kernel) rfl ?_
          refine pe_get (j := 83) (ci := 12) (n := 3) (by decide +kernel) (by decide +kernel) (md_o hc) rfl ?_
          refine pe_top (v := (f1 3)) (upf_fr ef3 (by decide)) ?_
          refine pe_iconstv (n := 1) (v := 1) (by decide +kernel) (by decide +kernel) ?_
          refine pz_add (by decide +kernel) rfl kz_1 (by omega) (by omega) (fun z38 hz38 => ?_)
          refine mz_put3 (jj := 83) (by decide +kernel) (by decide +kernel) hc hIf3 (by omega) (by omega) (fun f39 ef39 hIf39 => ?_)
          refine pe_aload_n (j := 0) (by decide +kernel) rfl ?_
          refine pe_iload_n (j := 1) (by decide +kernel) rfl ?_
          refine pe_bipushv (n := 59) (v := 59) (by decide +kernel) (by decide +kernel) ?_
          refine pz_icmp_ne (off := 7) (t := 304) (by decide +kernel) (by decide) rfl rfl kz_59 (fun h40 => ?_) (fun h40 => by omega)
          refine pe_iconstv (n := 4) (v := 4) (by decide +kernel) (by decide +kernel) ?_
          refine mz_put5 (jj := 93) (by decide +kernel) (by decide +kernel) hc hIf39 (by decide +kernel) (by decide +kernel) (fun f41 ef41 hIf41 => ?_)
          exact pe_vret (by decide +kernel) rfl ⟨f41, rfl, hIf41, (fun k n3 n4 n5 n6 n7 => (upf_fr ef41 n5).trans ((upf_fr ef39 n3).trans ((upf_fr ef3 n4).trans ((hGhIy2 k n3))))), trivial⟩
        · skip
          refine pe_iconstv (n := 1) (v := 1) (by decide +kernel) (by decide +kernel) ?_
          refine pe_goto (off := 4) (t := 17) (by decide +kernel) (by decide) rfl ?_
          refine pe_iret (by decide +kernel) rfl rfl ⟨rfl, rfl, ?_⟩
          show pmE pg X pg_tyl pg_cl (d + 2) 201 72 [.ref 147, .int v8, pm_dead] [.int 1] (md wc f3 A) _
          refine pz_if_eq (off := 111) (t := 183) (by decide +kernel) (by decide) rfl kz_1 (fun h42 => by omega) (fun h42 => ?_)
          refine pe_iconstv (n := 0) (v := 0) (by decide +kernel) (by decide +kernel) ?_
          refine pe_istore_n (j := 2) (ls' := [.ref 147, .int v8, .int 0]) (by decide +kernel) (Nat.le_of_ble_eq_true rfl) rfl ?_
          refine ML_201_77 hc (by omega) (fun f43 y45 hIy44 hGhIy44 => ?_) 601 f3 0 hIf3 (fun k _ => rfl) (by have h := hIf3.1 3; simp only [MF] at h; omega)
          refine pe_aload_n (j := 0) (by decide +kernel) rfl ?_
          refine pe_aload_n (j := 0) (by decide +kernel) rfl ?_
          refine pe_get (j := 83) (ci := 12) (n := 3) (by decide +kernel) (by decide +kernel) (md_o hc) rfl ?_
          have hr_3_f43 := hIy44.1 3
          simp only [MF] at hr_3_f43
          refine pe_aload_n (j := 0) (by decide +kernel) rfl ?_
          refine pe_get (j := 90) (ci := 12) (n := 4) (by decide +kernel) (by decide +kernel) (md_o hc) rfl ?_
          refine pe_top (v := (f1 3)) (((hGhIy44 4 (by decide))).trans (upf_at ef3)) ?_
          refine pz_sub (by decide +kernel) rfl rfl (by omega) (by omega) (fun z46 hz46 => ?_)
          refine pe_bipushv (n := 6) (v := 6) (by decide +kernel) (by decide +kernel) ?_
          refine pz_icmp_le (off := 8) (t := 155) (by decide +kernel) (by decide) rfl hz46 kz_6 (fun h47 => ?_) (fun h47 => ?_)
          · skip
            clear hz46
            refine pe_iload_n (j := 2) (by decide +kernel) rfl ?_
            refine pi_S (j := 100) (mj := 204) (by decide +kernel) (by decide +kernel) rfl ?_
            show pmE pg X pg_tyl pg_cl (d + 1) 204 0 [.int y45] [] (md wc f43 A) _
            refine pe_iload_n (j := 0) (by decide +kernel) rfl ?_
            refine pe_bipushv (n := 16) (v := 16) (by decide +kernel) (by decide +kernel) ?_
            refine pe_iconstv (n := 5) (v := 5) (by decide +kernel) (by decide +kernel) ?_
            refine pe_bipushv (n := 15) (v := 15) (by decide +kernel) (by decide +kernel) ?_
            refine pi_S (j := 78) (mj := 205) (by decide +kernel) (by decide +kernel) rfl ?_
            show pmE pg X pg_tyl pg_cl (d) 205 0 [.int 16, .int 5, .int 15] [] (md wc f43 A) _
            refine pe_iload_n (j := 0) (by decide +kernel) rfl ?_
            refine pe_bipushv (n := 32) (v := 32) (by decide +kernel) (by decide +kernel) ?_
            refine pe_imul (by decide +kernel) ?_
            refine pe_top (v := 512) (by decide +kernel) ?_
            refine pe_iload_n (j := 1) (by decide +kernel) rfl ?_
            refine pe_iadd (by decide +kernel) ?_
            refine pe_top (v := 517) (by decide +kernel) ?_
            refine pe_bipushv (n := 32) (v := 32) (by decide +kernel) (by decide +kernel) ?_
            refine pe_imul (by decide +kernel) ?_
            refine pe_top (v := 16544) (by decide +kernel) ?_
            refine pe_iload_n (j := 2) (by decide +kernel) rfl ?_
            refine pe_iadd (by decide +kernel) ?_
            refine pe_top (v := 16559) (by decide +kernel) ?_
            refine pe_iret (by decide +kernel) rfl rfl ⟨rfl, rfl, ?_⟩
            show pmE pg X pg_tyl pg_cl (d + 1) 204 9 [.int y45] [.int 16559, .int y45] (md wc f43 A) _
            refine pe_ldc (j := 82) (v := 32768) (by decide +kernel) (by decide +kernel) ?_
            refine pe_imul (by decide +kernel) ?_
            refine pe_top (v := 542605312) (by decide +kernel) ?_
            refine pe_bipushv (n := 16) (v := 16) (by decide +kernel) (by decide +kernel) ?_
            refine pe_bipushv (n := 12) (v := 12) (by decide +kernel) (by decide +kernel) ?_
            refine pe_iconstv (n := 5) (v := 5) (by decide +kernel) (by decide +kernel) ?_
            refine pi_S (j := 78) (mj := 205) (by decide +kernel) (by decide +kernel) rfl ?_
            show pmE pg X pg_tyl pg_cl (d) 205 0 [.int 16, .int 12, .int 5] [] (md wc f43 A) _
            refine pe_iload_n (j := 0) (by decide +kernel) rfl ?_
            refine pe_bipushv (n := 32) (v := 32) (by decide +kernel) (by decide +kernel) ?_
            refine pe_imul (by decide +kernel) ?_
            refine pe_top (v := 512) (by decide +kernel) ?_
            refine pe_iload_n (j := 1) (by decide +kernel) rfl ?_
            refine pe_iadd (by decide +kernel) ?_
            refine pe_top (v := 524) (by decide +kernel) ?_
            refine pe_bipushv (n := 32) (v := 32) (by decide +kernel) (by decide +kernel) ?_
            refine pe_imul (by decide +kernel) ?_
            refine pe_top (v := 16768) (by decide +kernel) ?_
            refine pe_iload_n (j := 2) (by decide +kernel) rfl ?_
            refine pe_iadd (by decide +kernel) ?_
            refine pe_top (v := 16773) (by decide +kernel) ?_
            refine pe_iret (by decide +kernel) rfl rfl ⟨rfl, rfl, ?_⟩
            show pmE pg X pg_tyl pg_cl (d + 1) 204 20 [.int y45] [.int 16773, .int 542605312, .int y45] (md wc f43 A) _
            refine pe_iadd (by decide +kernel) ?_
            refine pe_top (v := 542622085) (by decide +kernel) ?_
            refine pz_icmp_ne (off := 5) (t := 26) (by decide +kernel) (by decide) rfl rfl kz_542622085 (fun h58 => ?_) (fun h58 => ?_)
            · skip
              refine pe_iload_n (j := 0) (by decide +kernel) rfl ?_
              refine pe_bipushv (n := 23) (v := 23) (by decide +kernel) (by decide +kernel) ?_
              refine pe_bipushv (n := 15) (v := 15) (by decide +kernel) (by decide +kernel) ?_
              refine pe_bipushv (n := 18) (v := 18) (by decide +kernel) (by decide +kernel) ?_
              refine pi_S (j := 78) (mj := 205) (by decide +kernel) (by decide +kernel) rfl ?_
              show pmE pg X pg_tyl pg_cl (d) 205 0 [.int 23, .int 15, .int 18] [] (md wc f43 A) _
              refine pe_iload_n (j := 0) (by decide +kernel) rfl ?_
              refine pe_bipushv (n := 32) (v := 32) (by decide +kernel) (by decide +kernel) ?_
              refine pe_imul (by decide +kernel) ?_
              refine pe_top (v := 736) (by decide +kernel) ?_
              refine pe_iload_n (j := 1) (by decide +kernel) rfl ?_
              refine pe_iadd (by decide +kernel) ?_
              refine pe_top (v := 751) (by decide +kernel) ?_
              refine pe_bipushv (n := 32) (v := 32) (by decide +kernel) (by decide +kernel) ?_
              refine pe_imul (by decide +kernel) ?_
              refine pe_top (v := 24032) (by decide +kernel) ?_
              refine pe_iload_n (j := 2) (by decide +kernel) rfl ?_
              refine pe_iadd (by decide +kernel) ?_
              refine pe_top (v := 24050) (by decide +kernel) ?_
              refine pe_iret (by decide +kernel) rfl rfl ⟨rfl, rfl, ?_⟩
              show pmE pg X pg_tyl pg_cl (d + 1) 204 36 [.int y45] [.int 24050, .int y45] (md wc f43 A) _
              refine pe_bipushv (n := 32) (v := 32) (by decide +kernel) (by decide +kernel) ?_
              refine pe_imul (by decide +kernel) ?_
              refine pe_top (v := 769600) (by decide +kernel) ?_
              refine pe_iconstv (n := 4) (v := 4) (by decide +kernel) (by decide +kernel) ?_
              refine pe_iadd (by decide +kernel) ?_
              refine pe_top (v := 769604) (by decide +kernel) ?_
              refine pz_icmp_ne (off := 5) (t := 46) (by decide +kernel) (by decide) rfl rfl kz_769604 (fun h65 => ?_) (fun h65 => ?_)
              · skip
                refine pe_iload_n (j := 0) (by decide +kernel) rfl ?_
                refine pe_iconstv (n := 1) (v := 1) (by decide +kernel) (by decide +kernel) ?_
                refine pe_bipushv (n := 12) (v := 12) (by decide +kernel) (by decide +kernel) ?_
                refine pe_bipushv (n := 12) (v := 12) (by decide +kernel) (by decide +kernel) ?_
                refine pi_S (j := 78) (mj := 205) (by decide +kernel) (by decide +kernel) rfl ?_
                show pmE pg X pg_tyl pg_cl (d) 205 0 [.int 1, .int 12, .int 12] [] (md wc f43 A) _
                refine pe_iload_n (j := 0) (by decide +kernel) rfl ?_
                refine pe_bipushv (n := 32) (v := 32) (by decide +kernel) (by decide +kernel) ?_
                refine pe_imul (by decide +kernel) ?_
                refine pe_top (v := 32) (by decide +kernel) ?_
                refine pe_iload_n (j := 1) (by decide +kernel) rfl ?_
                refine pe_iadd (by decide +kernel) ?_
                refine pe_top (v := 44) (by decide +kernel) ?_
                refine pe_bipushv (n := 32) (v := 32) (by decide +kernel) (by decide +kernel) ?_
                refine pe_imul (by decide +kernel) ?_
                refine pe_top (v := 1408) (by decide +kernel) ?_
                refine pe_iload_n (j := 2) (by decide +kernel) rfl ?_
                refine pe_iadd (by decide +kernel) ?_
                refine pe_top (v := 1420) (by decide +kernel) ?_
                refine pe_iret (by decide +kernel) rfl rfl ⟨rfl, rfl, ?_⟩
                show pmE pg X pg_tyl pg_cl (d + 1) 204 55 [.int y45] [.int 1420, .int y45] (md wc f43 A) _
                refine pz_icmp_ne (off := 5) (t := 60) (by decide +kernel) (by decide) rfl rfl kz_1420 (fun h70 => ?_) (fun h70 => ?_)
                · skip
                  refine pe_iload_n (j := 0) (by decide +kernel) rfl ?_
                  refine pe_bipushv (n := 6) (v := 6) (by decide +kernel) (by decide +kernel) ?_
                  refine pe_iconstv (n := 5) (v := 5) (by decide +kernel) (by decide +kernel) ?_
                  refine pe_iconstv (n := 5) (v := 5) (by decide +kernel) (by decide +kernel) ?_
                  refine pi_S (j := 78) (mj := 205) (by decide +kernel) (by decide +kernel) rfl ?_
                  show pmE pg X pg_tyl pg_cl (d) 205 0 [.int 6, .int 5, .int 5] [] (md wc f43 A) _
                  refine pe_iload_n (j := 0) (by decide +kernel) rfl ?_
                  refine pe_bipushv (n := 32) (v := 32) (by decide +kernel) (by decide +kernel) ?_
                  refine pe_imul (by decide +kernel) ?_
                  refine pe_top (v := 192) (by decide +kernel) ?_
                  refine pe_iload_n (j := 1) (by decide +kernel) rfl ?_
                  refine pe_iadd (by decide +kernel) ?_
                  refine pe_top (v := 197) (by decide +kernel) ?_
                  refine pe_bipushv (n := 32) (v := 32) (by decide +kernel) (by decide +kernel) ?_
                  refine pe_imul (by decide +kernel) ?_
                  refine pe_top (v := 6304) (by decide +kernel) ?_
                  refine pe_iload_n (j := 2) (by decide +kernel) rfl ?_
                  refine pe_iadd (by decide +kernel) ?_
                  refine pe_top (v := 6309) (by decide +kernel) ?_
                  refine pe_iret (by decide +kernel) rfl rfl ⟨rfl, rfl, ?_⟩
                  show pmE pg X pg_tyl pg_cl (d + 1) 204 68 [.int y45] [.int 6309, .int y45] (md wc f43 A) _
                  refine pz_icmp_ne (off := 5) (t := 73) (by decide +kernel) (by decide) rfl rfl kz_6309 (fun h75 => ?_) (fun h75 => ?_)
                  · skip
                    refine pe_iload_n (j := 0) (by decide +kernel) rfl ?_
                    refine pe_bipushv (n := 18) (v := 18) (by decide +kernel) (by decide +kernel) ?_
                    refine pe_bipushv (n := 9) (v := 9) (by decide +kernel) (by decide +kernel) ?_
                    refine pe_bipushv (n := 19) (v := 19) (by decide +kernel) (by decide +kernel) ?_
                    refine pi_S (j := 78) (mj := 205) (by decide +kernel) (by decide +kernel) rfl ?_
                    show pmE pg X pg_tyl pg_cl (d) 205 0 [.int 18, .int 9, .int 19] [] (md wc f43 A) _
                    refine pe_iload_n (j := 0) (by decide +kernel) rfl ?_
                    refine pe_bipushv (n := 32) (v := 32) (by decide +kernel) (by decide +kernel) ?_
                    refine pe_imul (by decide +kernel) ?_
                    refine pe_top (v := 576) (by decide +kernel) ?_
                    refine pe_iload_n (j := 1) (by decide +kernel) rfl ?_
                    refine pe_iadd (by decide +kernel) ?_
                    refine pe_top (v := 585) (by decide +kernel) ?_
                    refine pe_bipushv (n := 32) (v := 32) (by decide +kernel) (by decide +kernel) ?_
                    refine pe_imul (by decide +kernel) ?_
                    refine pe_top (v := 18720) (by decide +kernel) ?_
                    refine pe_iload_n (j := 2) (by decide +kernel) rfl ?_
                    refine pe_iadd (by decide +kernel) ?_
                    refine pe_top (v := 18739) (by decide +kernel) ?_
                    refine pe_iret (by decide +kernel) rfl rfl ⟨rfl, rfl, ?_⟩
                    show pmE pg X pg_tyl pg_cl (d + 1) 204 83 [.int y45] [.int 18739, .int y45] (md wc f43 A) _
                    refine pe_bipushv (n := 32) (v := 32) (by decide +kernel) (by decide +kernel) ?_
                    refine pe_imul (by decide +kernel) ?_
                    refine pe_top (v := 599648) (by decide +kernel) ?_
                    refine pe_bipushv (n := 11) (v := 11) (by decide +kernel) (by decide +kernel) ?_
                    refine pe_iadd (by decide +kernel) ?_
                    refine pe_top (v := 599659) (by decide +kernel) ?_
                    refine pz_icmp_ne (off := 5) (t := 94) (by decide +kernel) (by decide) rfl rfl kz_599659 (fun h82 => ?_) (fun h82 => ?_)
                    · skip
                      refine pe_iload_n (j := 0) (by decide +kernel) rfl ?_
                      refine pe_bipushv (n := 19) (v := 19) (by decide +kernel) (by decide +kernel) ?_
                      refine pe_bipushv (n := 12) (v := 12) (by decide +kernel) (by decide +kernel) ?_
                      refine pe_iconstv (n := 1) (v := 1) (by decide +kernel) (by decide +kernel) ?_
                      refine pi_S (j := 78) (mj := 205) (by decide +kernel) (by decide +kernel) rfl ?_
                      show pmE pg X pg_tyl pg_cl (d) 205 0 [.int 19, .int 12, .int 1] [] (md wc f43 A) _
                      refine pe_iload_n (j := 0) (by decide +kernel) rfl ?_
                      refine pe_bipushv (n := 32) (v := 32) (by decide +kernel) (by decide +kernel) ?_
                      refine pe_imul (by decide +kernel) ?_
                      refine pe_top (v := 608) (by decide +kernel) ?_
                      refine pe_iload_n (j := 1) (by decide +kernel) rfl ?_
                      refine pe_iadd (by decide +kernel) ?_
                      refine pe_top (v := 620) (by decide +kernel) ?_
                      refine pe_bipushv (n := 32) (v := 32) (by decide +kernel) (by decide +kernel) ?_
                      refine pe_imul (by decide +kernel) ?_
                      refine pe_top (v := 19840) (by decide +kernel) ?_
                      refine pe_iload_n (j := 2) (by decide +kernel) rfl ?_
                      refine pe_iadd (by decide +kernel) ?_
                      refine pe_top (v := 19841) (by decide +kernel) ?_
                      refine pe_iret (by decide +kernel) rfl rfl ⟨rfl, rfl, ?_⟩
                      show pmE pg X pg_tyl pg_cl (d + 1) 204 103 [.int y45] [.int 19841, .int y45] (md wc f43 A) _
                      refine pe_sipushv (n := 1024) (v := 1024) (by decide +kernel) (by decide +kernel) ?_
                      refine pe_imul (by decide +kernel) ?_
                      refine pe_top (v := 20317184) (by decide +kernel) ?_
                      refine pe_bipushv (n := 96) (v := 96) (by decide +kernel) (by decide +kernel) ?_
                      refine pe_iadd (by decide +kernel) ?_
                      refine pe_top (v := 20317280) (by decide +kernel) ?_
                      refine pe_bipushv (n := 11) (v := 11) (by decide +kernel) (by decide +kernel) ?_
                      refine pe_iadd (by decide +kernel) ?_
                      refine pe_top (v := 20317291) (by decide +kernel) ?_
                      refine pz_icmp_ne (off := 6) (t := 119) (by decide +kernel) (by decide) rfl rfl kz_20317291 (fun h90 => ?_) (fun h90 => ?_)
                      · skip
                        refine pe_iload_n (j := 0) (by decide +kernel) rfl ?_
                        refine pe_bipushv (n := 23) (v := 23) (by decide +kernel) (by decide +kernel) ?_
                        refine pe_iconstv (n := 1) (v := 1) (by decide +kernel) (by decide +kernel) ?_
                        refine pe_bipushv (n := 14) (v := 14) (by decide +kernel) (by decide +kernel) ?_
                        refine pi_S (j := 78) (mj := 205) (by decide +kernel) (by decide +kernel) rfl ?_
                        show pmE pg X pg_tyl pg_cl (d) 205 0 [.int 23, .int 1, .int 14] [] (md wc f43 A) _
                        refine pe_iload_n (j := 0) (by decide +kernel) rfl ?_
                        refine pe_bipushv (n := 32) (v := 32) (by decide +kernel) (by decide +kernel) ?_
                        refine pe_imul (by decide +kernel) ?_
                        refine pe_top (v := 736) (by decide +kernel) ?_
                        refine pe_iload_n (j := 1) (by decide +kernel) rfl ?_
                        refine pe_iadd (by decide +kernel) ?_
                        refine pe_top (v := 737) (by decide +kernel) ?_
                        refine pe_bipushv (n := 32) (v := 32) (by decide +kernel) (by decide +kernel) ?_
                        refine pe_imul (by decide +kernel) ?_
                        refine pe_top (v := 23584) (by decide +kernel) ?_
                        refine pe_iload_n (j := 2) (by decide +kernel) rfl ?_
                        refine pe_iadd (by decide +kernel) ?_
                        refine pe_top (v := 23598) (by decide +kernel) ?_
                        refine pe_iret (by decide +kernel) rfl rfl ⟨rfl, rfl, ?_⟩
                        show pmE pg X pg_tyl pg_cl (d + 1) 204 128 [.int y45] [.int 23598, .int y45] (md wc f43 A) _
                        refine pe_bipushv (n := 32) (v := 32) (by decide +kernel) (by decide +kernel) ?_
                        refine pe_imul (by decide +kernel) ?_
                        refine pe_top (v := 755136) (by decide +kernel) ?_
                        refine pe_bipushv (n := 20) (v := 20) (by decide +kernel) (by decide +kernel) ?_
                        refine pe_iadd (by decide +kernel) ?_
                        refine pe_top (v := 755156) (by decide +kernel) ?_
                        refine pz_icmp_ne (off := 6) (t := 140) (by decide +kernel) (by decide) rfl rfl kz_755156 (fun h97 => ?_) (fun h97 => ?_)
                        · skip
                          refine pe_iload_n (j := 0) (by decide +kernel) rfl ?_
                          refine pe_bipushv (n := 15) (v := 15) (by decide +kernel) (by decide +kernel) ?_
                          refine pe_bipushv (n := 23) (v := 23) (by decide +kernel) (by decide +kernel) ?_
                          refine pe_iconstv (n := 5) (v := 5) (by decide +kernel) (by decide +kernel) ?_
                          refine pi_S (j := 78) (mj := 205) (by decide +kernel) (by decide +kernel) rfl ?_
                          show pmE pg X pg_tyl pg_cl (d) 205 0 [.int 15, .int 23, .int 5] [] (md wc f43 A) _
                          refine pe_iload_n (j := 0) (by decide +kernel) rfl ?_
                          refine pe_bipushv (n := 32) (v := 32) (by decide +kernel) (by decide +kernel) ?_
                          refine pe_imul (by decide +kernel) ?_
                          refine pe_top (v := 480) (by decide +kernel) ?_
                          refine pe_iload_n (j := 1) (by decide +kernel) rfl ?_
                          refine pe_iadd (by decide +kernel) ?_
                          refine pe_top (v := 503) (by decide +kernel) ?_
                          refine pe_bipushv (n := 32) (v := 32) (by decide +kernel) (by decide +kernel) ?_
                          refine pe_imul (by decide +kernel) ?_
                          refine pe_top (v := 16096) (by decide +kernel) ?_
                          refine pe_iload_n (j := 2) (by decide +kernel) rfl ?_
                          refine pe_iadd (by decide +kernel) ?_
                          refine pe_top (v := 16101) (by decide +kernel) ?_
                          refine pe_iret (by decide +kernel) rfl rfl ⟨rfl, rfl, ?_⟩
                          show pmE pg X pg_tyl pg_cl (d + 1) 204 149 [.int y45] [.int 16101, .int y45] (md wc f43 A) _
                          refine pz_icmp_ne (off := 6) (t := 155) (by decide +kernel) (by decide) rfl rfl kz_16101 (fun h102 => ?_) (fun h102 => ?_)
                          · skip
                            refine pe_iload_n (j := 0) (by decide +kernel) rfl ?_
                            refine pe_bipushv (n := 16) (v := 16) (by decide +kernel) (by decide +kernel) ?_
                            refine pe_iconstv (n := 1) (v := 1) (by decide +kernel) (by decide +kernel) ?_
                            refine pe_bipushv (n := 25) (v := 25) (by decide +kernel) (by decide +kernel) ?_
                            refine pi_S (j := 78) (mj := 205) (by decide +kernel) (by decide +kernel) rfl ?_
                            show pmE pg X pg_tyl pg_cl (d) 205 0 [.int 16, .int 1, .int 25] [] (md wc f43 A) _
                            refine pe_iload_n (j := 0) (by decide +kernel) rfl ?_
                            refine pe_bipushv (n := 32) (v := 32) (by decide +kernel) (by decide +kernel) ?_
                            refine pe_imul (by decide +kernel) ?_
                            refine pe_top (v := 512) (by decide +kernel) ?_
                            refine pe_iload_n (j := 1) (by decide +kernel) rfl ?_
                            refine pe_iadd (by decide +kernel) ?_
                            refine pe_top (v := 513) (by decide +kernel) ?_
                            refine pe_bipushv (n := 32) (v := 32) (by decide +kernel) (by decide +kernel) ?_
                            refine pe_imul (by decide +kernel) ?_
                            refine pe_top (v := 16416) (by decide +kernel) ?_
                            refine pe_iload_n (j := 2) (by decide +kernel) rfl ?_
                            refine pe_iadd (by decide +kernel) ?_
                            refine pe_top (v := 16441) (by decide +kernel) ?_
                            refine pe_iret (by decide +kernel) rfl rfl ⟨rfl, rfl, ?_⟩
                            show pmE pg X pg_tyl pg_cl (d + 1) 204 164 [.int y45] [.int 16441, .int y45] (md wc f43 A) _
                            refine pz_icmp_ne (off := 6) (t := 170) (by decide +kernel) (by decide) rfl rfl kz_16441 (fun h107 => ?_) (fun h107 => ?_)
                            · skip
                              refine pe_iload_n (j := 0) (by decide +kernel) rfl ?_
                              refine pe_bipushv (n := 18) (v := 18) (by decide +kernel) (by decide +kernel) ?_
                              refine pe_bipushv (n := 9) (v := 9) (by decide +kernel) (by decide +kernel) ?_
                              refine pe_bipushv (n := 14) (v := 14) (by decide +kernel) (by decide +kernel) ?_
                              refine pi_S (j := 78) (mj := 205) (by decide +kernel) (by decide +kernel) rfl ?_
                              show pmE pg X pg_tyl pg_cl (d) 205 0 [.int 18, .int 9, .int 14] [] (md wc f43 A) _
                              refine pe_iload_n (j := 0) (by decide +kernel) rfl ?_
                              refine pe_bipushv (n := 32) (v := 32) (by decide +kernel) (by decide +kernel) ?_
                              refine pe_imul (by decide +kernel) ?_
                              refine pe_top (v := 576) (by decide +kernel) ?_
                              refine pe_iload_n (j := 1) (by decide +kernel) rfl ?_
                              refine pe_iadd (by decide +kernel) ?_
                              refine pe_top (v := 585) (by decide +kernel) ?_
                              refine pe_bipushv (n := 32) (v := 32) (by decide +kernel) (by decide +kernel) ?_
                              refine pe_imul (by decide +kernel) ?_
                              refine pe_top (v := 18720) (by decide +kernel) ?_
                              refine pe_iload_n (j := 2) (by decide +kernel) rfl ?_
                              refine pe_iadd (by decide +kernel) ?_
                              refine pe_top (v := 18734) (by decide +kernel) ?_
                              refine pe_iret (by decide +kernel) rfl rfl ⟨rfl, rfl, ?_⟩
                              show pmE pg X pg_tyl pg_cl (d + 1) 204 180 [.int y45] [.int 18734, .int y45] (md wc f43 A) _
                              refine pe_bipushv (n := 32) (v := 32) (by decide +kernel) (by decide +kernel) ?_
                              refine pe_imul (by decide +kernel) ?_
                              refine pe_top (v := 599488) (by decide +kernel) ?_
                              refine pe_bipushv (n := 7) (v := 7) (by decide +kernel) (by decide +kernel) ?_
                              refine pe_iadd (by decide +kernel) ?_
                              refine pe_top (v := 599495) (by decide +kernel) ?_
                              refine pz_icmp_ne (off := 6) (t := 192) (by decide +kernel) (by decide) rfl rfl kz_599495 (fun h114 => ?_) (fun h114 => ?_)
                              · skip
                                refine pe_iload_n (j := 0) (by decide +kernel) rfl ?_
                                refine pe_bipushv (n := 19) (v := 19) (by decide +kernel) (by decide +kernel) ?_
                                refine pe_bipushv (n := 20) (v := 20) (by decide +kernel) (by decide +kernel) ?_
                                refine pe_bipushv (n := 18) (v := 18) (by decide +kernel) (by decide +kernel) ?_
                                refine pi_S (j := 78) (mj := 205) (by decide +kernel) (by decide +kernel) rfl ?_
                                show pmE pg X pg_tyl pg_cl (d) 205 0 [.int 19, .int 20, .int 18] [] (md wc f43 A) _
                                refine pe_iload_n (j := 0) (by decide +kernel) rfl ?_
                                refine pe_bipushv (n := 32) (v := 32) (by decide +kernel) (by decide +kernel) ?_
                                refine pe_imul (by decide +kernel) ?_
                                refine pe_top (v := 608) (by decide +kernel) ?_
                                refine pe_iload_n (j := 1) (by decide +kernel) rfl ?_
                                refine pe_iadd (by decide +kernel) ?_
                                refine pe_top (v := 628) (by decide +kernel) ?_
                                refine pe_bipushv (n := 32) (v := 32) (by decide +kernel) (by decide +kernel) ?_
                                refine pe_imul (by decide +kernel) ?_
                                refine pe_top (v := 20096) (by decide +kernel) ?_
                                refine pe_iload_n (j := 2) (by decide +kernel) rfl ?_
                                refine pe_iadd (by decide +kernel) ?_
                                refine pe_top (v := 20114) (by decide +kernel) ?_
                                refine pe_iret (by decide +kernel) rfl rfl ⟨rfl, rfl, ?_⟩
                                show pmE pg X pg_tyl pg_cl (d + 1) 204 202 [.int y45] [.int 20114, .int y45] (md wc f43 A) _
                                refine pe_ldc (j := 82) (v := 32768) (by decide +kernel) (by decide +kernel) ?_
                                refine pe_imul (by decide +kernel) ?_
                                refine pe_top (v := 659095552) (by decide +kernel) ?_
                                refine pe_bipushv (n := 9) (v := 9) (by decide +kernel) (by decide +kernel) ?_
                                refine pe_bipushv (n := 11) (v := 11) (by decide +kernel) (by decide +kernel) ?_
                                refine pe_iconstv (n := 5) (v := 5) (by decide +kernel) (by decide +kernel) ?_
                                refine pi_S (j := 78) (mj := 205) (by decide +kernel) (by decide +kernel) rfl ?_
                                show pmE pg X pg_tyl pg_cl (d) 205 0 [.int 9, .int 11, .int 5] [] (md wc f43 A) _
                                refine pe_iload_n (j := 0) (by decide +kernel) rfl ?_
                                refine pe_bipushv (n := 32) (v := 32) (by decide +kernel) (by decide +kernel) ?_
                                refine pe_imul (by decide +kernel) ?_
                                refine pe_top (v := 288) (by decide +kernel) ?_
                                refine pe_iload_n (j := 1) (by decide +kernel) rfl ?_
                                refine pe_iadd (by decide +kernel) ?_
                                refine pe_top (v := 299) (by decide +kernel) ?_
                                refine pe_bipushv (n := 32) (v := 32) (by decide +kernel) (by decide +kernel) ?_
                                refine pe_imul (by decide +kernel) ?_
                                refine pe_top (v := 9568) (by decide +kernel) ?_
                                refine pe_iload_n (j := 2) (by decide +kernel) rfl ?_
                                refine pe_iadd (by decide +kernel) ?_
                                refine pe_top (v := 9573) (by decide +kernel) ?_
                                refine pe_iret (by decide +kernel) rfl rfl ⟨rfl, rfl, ?_⟩
                                show pmE pg X pg_tyl pg_cl (d + 1) 204 213 [.int y45] [.int 9573, .int 659095552, .int y45] (md wc f43 A) _
                                refine pe_iadd (by decide +kernel) ?_
                                refine pe_top (v := 659105125) (by decide +kernel) ?_
                                refine pz_icmp_ne (off := 6) (t := 220) (by decide +kernel) (by decide) rfl rfl kz_659105125 (fun h125 => ?_) (fun h125 => ?_)
                                · skip
                                  refine pe_iload_n (j := 0) (by decide +kernel) rfl ?_
                                  refine pe_bipushv (n := 6) (v := 6) (by decide +kernel) (by decide +kernel) ?_
                                  refine pe_iconstv (n := 1) (v := 1) (by decide +kernel) (by decide +kernel) ?_
                                  refine pe_bipushv (n := 9) (v := 9) (by decide +kernel) (by decide +kernel) ?_
                                  refine pi_S (j := 78) (mj := 205) (by decide +kernel) (by decide +kernel) rfl ?_
                                  show pmE pg X pg_tyl pg_cl (d) 205 0 [.int 6, .int 1, .int 9] [] (md wc f43 A) _
                                  refine pe_iload_n (j := 0) (by decide +kernel) rfl ?_
                                  refine pe_bipushv (n := 32) (v := 32) (by decide +kernel) (by decide +kernel) ?_
                                  refine pe_imul (by decide +kernel) ?_
                                  refine pe_top (v := 192) (by decide +kernel) ?_
                                  refine pe_iload_n (j := 1) (by decide +kernel) rfl ?_
                                  refine pe_iadd (by decide +kernel) ?_
                                  refine pe_top (v := 193) (by decide +kernel) ?_
                                  refine pe_bipushv (n := 32) (v := 32) (by decide +kernel) (by decide +kernel) ?_
                                  refine pe_imul (by decide +kernel) ?_
                                  refine pe_top (v := 6176) (by decide +kernel) ?_
                                  refine pe_iload_n (j := 2) (by decide +kernel) rfl ?_
                                  refine pe_iadd (by decide +kernel) ?_
                                  refine pe_top (v := 6185) (by decide +kernel) ?_
                                  refine pe_iret (by decide +kernel) rfl rfl ⟨rfl, rfl, ?_⟩
                                  show pmE pg X pg_tyl pg_cl (d + 1) 204 229 [.int y45] [.int 6185, .int y45] (md wc f43 A) _
                                  refine pe_bipushv (n := 32) (v := 32) (by decide +kernel) (by decide +kernel) ?_
                                  refine pe_imul (by decide +kernel) ?_
                                  refine pe_top (v := 197920) (by decide +kernel) ?_
                                  refine pe_bipushv (n := 12) (v := 12) (by decide +kernel) (by decide +kernel) ?_
                                  refine pe_iadd (by decide +kernel) ?_
                                  refine pe_top (v := 197932) (by decide +kernel) ?_
                                  refine pz_icmp_ne (off := 6) (t := 241) (by decide +kernel) (by decide) rfl rfl kz_197932 (fun h132 => ?_) (fun h132 => ?_)
                                  · skip
                                    refine pe_iload_n (j := 0) (by decide +kernel) rfl ?_
                                    refine pe_bipushv (n := 13) (v := 13) (by decide +kernel) (by decide +kernel) ?_
                                    refine pe_bipushv (n := 15) (v := 15) (by decide +kernel) (by decide +kernel) ?_
                                    refine pe_bipushv (n := 14) (v := 14) (by decide +kernel) (by decide +kernel) ?_
                                    refine pi_S (j := 78) (mj := 205) (by decide +kernel) (by decide +kernel) rfl ?_
                                    show pmE pg X pg_tyl pg_cl (d) 205 0 [.int 13, .int 15, .int 14] [] (md wc f43 A) _
                                    refine pe_iload_n (j := 0) (by decide +kernel) rfl ?_
                                    refine pe_bipushv (n := 32) (v := 32) (by decide +kernel) (by decide +kernel) ?_
                                    refine pe_imul (by decide +kernel) ?_
                                    refine pe_top (v := 416) (by decide +kernel) ?_
                                    refine pe_iload_n (j := 1) (by decide +kernel) rfl ?_
                                    refine pe_iadd (by decide +kernel) ?_
                                    refine pe_top (v := 431) (by decide +kernel) ?_
                                    refine pe_bipushv (n := 32) (v := 32) (by decide +kernel) (by decide +kernel) ?_
                                    refine pe_imul (by decide +kernel) ?_
                                    refine pe_top (v := 13792) (by decide +kernel) ?_
                                    refine pe_iload_n (j := 2) (by decide +kernel) rfl ?_
                                    refine pe_iadd (by decide +kernel) ?_
                                    refine pe_top (v := 13806) (by decide +kernel) ?_
                                    refine pe_iret (by decide +kernel) rfl rfl ⟨rfl, rfl, ?_⟩
                                    show pmE pg X pg_tyl pg_cl (d + 1) 204 251 [.int y45] [.int 13806, .int y45] (md wc f43 A) _
                                    refine pe_sipushv (n := 1024) (v := 1024) (by decide +kernel) (by decide +kernel) ?_
                                    refine pe_imul (by decide +kernel) ?_
                                    refine pe_top (v := 14137344) (by decide +kernel) ?_
                                    refine pe_sipushv (n := 640) (v := 640) (by decide +kernel) (by decide +kernel) ?_
                                    refine pe_iadd (by decide +kernel) ?_
                                    refine pe_top (v := 14137984) (by decide +kernel) ?_
                                    refine pe_bipushv (n := 8) (v := 8) (by decide +kernel) (by decide +kernel) ?_
                                    refine pe_iadd (by decide +kernel) ?_
                                    refine pe_top (v := 14137992) (by decide +kernel) ?_
                                    refine pz_icmp_ne (off := 8) (t := 270) (by decide +kernel) (by decide) rfl rfl kz_14137992 (fun h140 => ?_) (fun h140 => ?_)
                                    · skip
                                      refine pe_bipushv (n := 99) (v := 99) (by decide +kernel) (by decide +kernel) ?_
                                      refine pe_iret (by decide +kernel) rfl rfl ⟨rfl, rfl, ?_⟩
                                      show pmE pg X pg_tyl pg_cl (d + 2) 201 159 [.ref 147, .int v8, .int y45] [.int 99, .ref 147] (md wc f43 A) _
                                      refine mz_put7 (jj := 103) (by decide +kernel) (by decide +kernel) hc hIy44 (fun f141 ef141 hIf141 => ?_)
                                      refine pe_aload_n (j := 0) (by decide +kernel) rfl ?_
                                      refine pe_aload_n (j := 0) (by decide +kernel) rfl ?_
                                      refine pe_get (j := 103) (ci := 12) (n := 7) (by decide +kernel) (by decide +kernel) (md_o hc) rfl ?_
                                      refine pe_top (v := 99) (upf_at ef141) ?_
                                      refine pe_bipushv (n := 99) (v := 99) (by decide +kernel) (by decide +kernel) ?_
                                      refine pz_icmp_ne (off := 7) (t := 176) (by decide +kernel) (by decide) rfl kz_99 kz_99 (fun h142 => by omega) (fun h142 => ?_)
                                      refine pe_iconstv (n := 4) (v := 4) (by decide +kernel) (by decide +kernel) ?_
                                      refine pe_goto (off := 4) (t := 177) (by decide +kernel) (by decide) rfl ?_
                                      refine mz_put5 (jj := 93) (by decide +kernel) (by decide +kernel) hc hIf141 (by decide +kernel) (by decide +kernel) (fun f143 ef143 hIf143 => ?_)
                                      refine pe_goto (off := 128) (t := 308) (by decide +kernel) (by decide) rfl ?_
                                      exact pe_vret (by decide +kernel) rfl ⟨f143, rfl, hIf143, (fun k n3 n4 n5 n6 n7 => (upf_fr ef143 n5).trans ((upf_fr ef141 n7).trans (((hGhIy44 k n3)).trans ((upf_fr ef3 n4).trans ((hGhIy2 k n3)))))), trivial⟩
                                    · skip
                                      refine pe_bipushv (n := 16) (v := 16) (by decide +kernel) (by decide +kernel) ?_
                                      refine pe_goto (off := 5) (t := 272) (by decide +kernel) (by decide) rfl ?_
                                      refine pe_iret (by decide +kernel) rfl rfl ⟨rfl, rfl, ?_⟩
                                      show pmE pg X pg_tyl pg_cl (d + 2) 201 159 [.ref 147, .int v8, .int y45] [.int 16, .ref 147] (md wc f43 A) _
                                      refine mz_put7 (jj := 103) (by decide +kernel) (by decide +kernel) hc hIy44 (fun f144 ef144 hIf144 => ?_)
                                      refine pe_aload_n (j := 0) (by decide +kernel) rfl ?_
                                      refine pe_aload_n (j := 0) (by decide +kernel) rfl ?_
                                      refine pe_get (j := 103) (ci := 12) (n := 7) (by decide +kernel) (by decide +kernel) (md_o hc) rfl ?_
                                      refine pe_top (v := 16) (upf_at ef144) ?_
                                      refine pe_bipushv (n := 99) (v := 99) (by decide +kernel) (by decide +kernel) ?_
                                      refine pz_icmp_ne (off := 7) (t := 176) (by decide +kernel) (by decide) rfl kz_16 kz_99 (fun h145 => ?_) (fun h145 => by omega)
                                      refine pe_iconstv (n := 3) (v := 3) (by decide +kernel) (by decide +kernel) ?_
                                      refine mz_put5 (jj := 93) (by decide +kernel) (by decide +kernel) hc hIf144 (by decide +kernel) (by decide +kernel) (fun f146 ef146 hIf146 => ?_)
                                      refine pe_goto (off := 128) (t := 308) (by decide +kernel) (by decide) rfl ?_
                                      exact pe_vret (by decide +kernel) rfl ⟨f146, rfl, hIf146, (fun k n3 n4 n5 n6 n7 => (upf_fr ef146 n5).trans ((upf_fr ef144 n7).trans (((hGhIy44 k n3)).trans ((upf_fr ef3 n4).trans ((hGhIy2 k n3)))))), trivial⟩
                                  · skip
                                    refine pe_bipushv (n := 15) (v := 15) (by decide +kernel) (by decide +kernel) ?_
                                    refine pe_iret (by decide +kernel) rfl rfl ⟨rfl, rfl, ?_⟩
                                    show pmE pg X pg_tyl pg_cl (d + 2) 201 159 [.ref 147, .int v8, .int y45] [.int 15, .ref 147] (md wc f43 A) _
                                    refine mz_put7 (jj := 103) (by decide +kernel) (by decide +kernel) hc hIy44 (fun f147 ef147 hIf147 => ?_)
                                    refine pe_aload_n (j := 0) (by decide +kernel) rfl ?_
                                    refine pe_aload_n (j := 0) (by decide +kernel) rfl ?_
                                    refine pe_get (j := 103) (ci := 12) (n := 7) (by decide +kernel) (by decide +kernel) (md_o hc) rfl ?_
                                    refine pe_top (v := 15) (upf_at ef147) ?_
                                    refine pe_bipushv (n := 99) (v := 99) (by decide +kernel) (by decide +kernel) ?_
                                    refine pz_icmp_ne (off := 7) (t := 176) (by decide +kernel) (by decide) rfl kz_15 kz_99 (fun h148 => ?_) (fun h148 => by omega)
                                    refine pe_iconstv (n := 3) (v := 3) (by decide +kernel) (by decide +kernel) ?_
                                    refine mz_put5 (jj := 93) (by decide +kernel) (by decide +kernel) hc hIf147 (by decide +kernel) (by decide +kernel) (fun f149 ef149 hIf149 => ?_)
                                    refine pe_goto (off := 128) (t := 308) (by decide +kernel) (by decide) rfl ?_
                                    exact pe_vret (by decide +kernel) rfl ⟨f149, rfl, hIf149, (fun k n3 n4 n5 n6 n7 => (upf_fr ef149 n5).trans ((upf_fr ef147 n7).trans (((hGhIy44 k n3)).trans ((upf_fr ef3 n4).trans ((hGhIy2 k n3)))))), trivial⟩
                                · skip
                                  refine pe_bipushv (n := 14) (v := 14) (by decide +kernel) (by decide +kernel) ?_
                                  refine pe_iret (by decide +kernel) rfl rfl ⟨rfl, rfl, ?_⟩
                                  show pmE pg X pg_tyl pg_cl (d + 2) 201 159 [.ref 147, .int v8, .int y45] [.int 14, .ref 147] (md wc f43 A) _
                                  refine mz_put7 (jj := 103) (by decide +kernel) (by decide +kernel) hc hIy44 (fun f150 ef150 hIf150 => ?_)
                                  refine pe_aload_n (j := 0) (by decide +kernel) rfl ?_
                                  refine pe_aload_n (j := 0) (by decide +kernel) rfl ?_
                                  refine pe_get (j := 103) (ci := 12) (n := 7) (by decide +kernel) (by decide +kernel) (md_o hc) rfl ?_
                                  refine pe_top (v := 14) (upf_at ef150) ?_
                                  refine pe_bipushv (n := 99) (v := 99) (by decide +kernel) (by decide +kernel) ?_
                                  refine pz_icmp_ne (off := 7) (t := 176) (by decide +kernel) (by decide) rfl kz_14 kz_99 (fun h151 => ?_) (fun h151 => by omega)
                                  refine pe_iconstv (n := 3) (v := 3) (by decide +kernel) (by decide +kernel) ?_
                                  refine mz_put5 (jj := 93) (by decide +kernel) (by decide +kernel) hc hIf150 (by decide +kernel) (by decide +kernel) (fun f152 ef152 hIf152 => ?_)
                                  refine pe_goto (off := 128) (t := 308) (by decide +kernel) (by decide) rfl ?_
                                  exact pe_vret (by decide +kernel) rfl ⟨f152, rfl, hIf152, (fun k n3 n4 n5 n6 n7 => (upf_fr ef152 n5).trans ((upf_fr ef150 n7).trans (((hGhIy44 k n3)).trans ((upf_fr ef3 n4).trans ((hGhIy2 k n3)))))), trivial⟩
                              · skip
                                refine pe_bipushv (n := 13) (v := 13) (by decide +kernel) (by decide +kernel) ?_
                                refine pe_iret (by decide +kernel) rfl rfl ⟨rfl, rfl, ?_⟩
                                show pmE pg X pg_tyl pg_cl (d + 2) 201 159 [.ref 147, .int v8, .int y45] [.int 13, .ref 147] (md wc f43 A) _
                                refine mz_put7 (jj := 103) (by decide +kernel) (by decide +kernel) hc hIy44 (fun f153 ef153 hIf153 => ?_)
                                refine pe_aload_n (j := 0) (by decide +kernel) rfl ?_
                                refine pe_aload_n (j := 0) (by decide +kernel) rfl ?_
                                refine pe_get (j := 103) (ci := 12) (n := 7) (by decide +kernel) (by decide +kernel) (md_o hc) rfl ?_
                                refine pe_top (v := 13) (upf_at ef153) ?_
                                refine pe_bipushv (n := 99) (v := 99) (by decide +kernel) (by decide +kernel) ?_
                                refine pz_icmp_ne (off := 7) (t := 176) (by decide +kernel) (by decide) rfl kz_13 kz_99 (fun h154 => ?_) (fun h154 => by omega)
                                refine pe_iconstv (n := 3) (v := 3) (by decide +kernel) (by decide +kernel) ?_
                                refine mz_put5 (jj := 93) (by decide +kernel) (by decide +kernel) hc hIf153 (by decide +kernel) (by decide +kernel) (fun f155 ef155 hIf155 => ?_)
                                refine pe_goto (off := 128) (t := 308) (by decide +kernel) (by decide) rfl ?_
                                exact pe_vret (by decide +kernel) rfl ⟨f155, rfl, hIf155, (fun k n3 n4 n5 n6 n7 => (upf_fr ef155 n5).trans ((upf_fr ef153 n7).trans (((hGhIy44 k n3)).trans ((upf_fr ef3 n4).trans ((hGhIy2 k n3)))))), trivial⟩
                            · skip
                              refine pe_bipushv (n := 12) (v := 12) (by decide +kernel) (by decide +kernel) ?_
                              refine pe_iret (by decide +kernel) rfl rfl ⟨rfl, rfl, ?_⟩
                              show pmE pg X pg_tyl pg_cl (d + 2) 201 159 [.ref 147, .int v8, .int y45] [.int 12, .ref 147] (md wc f43 A) _
                              refine mz_put7 (jj := 103) (by decide +kernel) (by decide +kernel) hc hIy44 (fun f156 ef156 hIf156 => ?_)
                              refine pe_aload_n (j := 0) (by decide +kernel) rfl ?_
                              refine pe_aload_n (j := 0) (by decide +kernel) rfl ?_
                              refine pe_get (j := 103) (ci := 12) (n := 7) (by decide +kernel) (by decide +kernel) (md_o hc) rfl ?_
                              refine pe_top (v := 12) (upf_at ef156) ?_
                              refine pe_bipushv (n := 99) (v := 99) (by decide +kernel) (by decide +kernel) ?_
                              refine pz_icmp_ne (off := 7) (t := 176) (by decide +kernel) (by decide) rfl kz_12 kz_99 (fun h157 => ?_) (fun h157 => by omega)
                              refine pe_iconstv (n := 3) (v := 3) (by decide +kernel) (by decide +kernel) ?_
                              refine mz_put5 (jj := 93) (by decide +kernel) (by decide +kernel) hc hIf156 (by decide +kernel) (by decide +kernel) (fun f158 ef158 hIf158 => ?_)
                              refine pe_goto (off := 128) (t := 308) (by decide +kernel) (by decide) rfl ?_
                              exact pe_vret (by decide +kernel) rfl ⟨f158, rfl, hIf158, (fun k n3 n4 n5 n6 n7 => (upf_fr ef158 n5).trans ((upf_fr ef156 n7).trans (((hGhIy44 k n3)).trans ((upf_fr ef3 n4).trans ((hGhIy2 k n3)))))), trivial⟩
                          · skip
                            refine pe_bipushv (n := 11) (v := 11) (by decide +kernel) (by decide +kernel) ?_
                            refine pe_iret (by decide +kernel) rfl rfl ⟨rfl, rfl, ?_⟩
                            show pmE pg X pg_tyl pg_cl (d + 2) 201 159 [.ref 147, .int v8, .int y45] [.int 11, .ref 147] (md wc f43 A) _
                            refine mz_put7 (jj := 103) (by decide +kernel) (by decide +kernel) hc hIy44 (fun f159 ef159 hIf159 => ?_)
                            refine pe_aload_n (j := 0) (by decide +kernel) rfl ?_
                            refine pe_aload_n (j := 0) (by decide +kernel) rfl ?_
                            refine pe_get (j := 103) (ci := 12) (n := 7) (by decide +kernel) (by decide +kernel) (md_o hc) rfl ?_
                            refine pe_top (v := 11) (upf_at ef159) ?_
                            refine pe_bipushv (n := 99) (v := 99) (by decide +kernel) (by decide +kernel) ?_
                            refine pz_icmp_ne (off := 7) (t := 176) (by decide +kernel) (by decide) rfl kz_11 kz_99 (fun h160 => ?_) (fun h160 => by omega)
                            refine pe_iconstv (n := 3) (v := 3) (by decide +kernel) (by decide +kernel) ?_
                            refine mz_put5 (jj := 93) (by decide +kernel) (by decide +kernel) hc hIf159 (by decide +kernel) (by decide +kernel) (fun f161 ef161 hIf161 => ?_)
                            refine pe_goto (off := 128) (t := 308) (by decide +kernel) (by decide) rfl ?_
                            exact pe_vret (by decide +kernel) rfl ⟨f161, rfl, hIf161, (fun k n3 n4 n5 n6 n7 => (upf_fr ef161 n5).trans ((upf_fr ef159 n7).trans (((hGhIy44 k n3)).trans ((upf_fr ef3 n4).trans ((hGhIy2 k n3)))))), trivial⟩
                        · skip
                          refine pe_bipushv (n := 7) (v := 7) (by decide +kernel) (by decide +kernel) ?_
                          refine pe_iret (by decide +kernel) rfl rfl ⟨rfl, rfl, ?_⟩
                          show pmE pg X pg_tyl pg_cl (d + 2) 201 159 [.ref 147, .int v8, .int y45] [.int 7, .ref 147] (md wc f43 A) _
                          refine mz_put7 (jj := 103) (by decide +kernel) (by decide +kernel) hc hIy44 (fun f162 ef162 hIf162 => ?_)
                          refine pe_aload_n (j := 0) (by decide +kernel) rfl ?_
                          refine pe_aload_n (j := 0) (by decide +kernel) rfl ?_
                          refine pe_get (j := 103) (ci := 12) (n := 7) (by decide +kernel) (by decide +kernel) (md_o hc) rfl ?_
                          refine pe_top (v := 7) (upf_at ef162) ?_
                          refine pe_bipushv (n := 99) (v := 99) (by decide +kernel) (by decide +kernel) ?_
                          refine pz_icmp_ne (off := 7) (t := 176) (by decide +kernel) (by decide) rfl kz_7 kz_99 (fun h163 => ?_) (fun h163 => by omega)
                          refine pe_iconstv (n := 3) (v := 3) (by decide +kernel) (by decide +kernel) ?_
                          refine mz_put5 (jj := 93) (by decide +kernel) (by decide +kernel) hc hIf162 (by decide +kernel) (by decide +kernel) (fun f164 ef164 hIf164 => ?_)
                          refine pe_goto (off := 128) (t := 308) (by decide +kernel) (by decide) rfl ?_
                          exact pe_vret (by decide +kernel) rfl ⟨f164, rfl, hIf164, (fun k n3 n4 n5 n6 n7 => (upf_fr ef164 n5).trans ((upf_fr ef162 n7).trans (((hGhIy44 k n3)).trans ((upf_fr ef3 n4).trans ((hGhIy2 k n3)))))), trivial⟩
                      · skip
                        refine pe_bipushv (n := 6) (v := 6) (by decide +kernel) (by decide +kernel) ?_
                        refine pe_iret (by decide +kernel) rfl rfl ⟨rfl, rfl, ?_⟩
                        show pmE pg X pg_tyl pg_cl (d + 2) 201 159 [.ref 147, .int v8, .int y45] [.int 6, .ref 147] (md wc f43 A) _
                        refine mz_put7 (jj := 103) (by decide +kernel) (by decide +kernel) hc hIy44 (fun f165 ef165 hIf165 => ?_)
                        refine pe_aload_n (j := 0) (by decide +kernel) rfl ?_
                        refine pe_aload_n (j := 0) (by decide +kernel) rfl ?_
                        refine pe_get (j := 103) (ci := 12) (n := 7) (by decide +kernel) (by decide +kernel) (md_o hc) rfl ?_
                        refine pe_top (v := 6) (upf_at ef165) ?_
                        refine pe_bipushv (n := 99) (v := 99) (by decide +kernel) (by decide +kernel) ?_
                        refine pz_icmp_ne (off := 7) (t := 176) (by decide +kernel) (by decide) rfl kz_6 kz_99 (fun h166 => ?_) (fun h166 => by omega)
                        refine pe_iconstv (n := 3) (v := 3) (by decide +kernel) (by decide +kernel) ?_
                        refine mz_put5 (jj := 93) (by decide +kernel) (by decide +kernel) hc hIf165 (by decide +kernel) (by decide +kernel) (fun f167 ef167 hIf167 => ?_)
                        refine pe_goto (off := 128) (t := 308) (by decide +kernel) (by decide) rfl ?_
                        exact pe_vret (by decide +kernel) rfl ⟨f167, rfl, hIf167, (fun k n3 n4 n5 n6 n7 => (upf_fr ef167 n5).trans ((upf_fr ef165 n7).trans (((hGhIy44 k n3)).trans ((upf_fr ef3 n4).trans ((hGhIy2 k n3)))))), trivial⟩
                    · skip
                      refine pe_iconstv (n := 5) (v := 5) (by decide +kernel) (by decide +kernel) ?_
                      refine pe_iret (by decide +kernel) rfl rfl ⟨rfl, rfl, ?_⟩
                      show pmE pg X pg_tyl pg_cl (d + 2) 201 159 [.ref 147, .int v8, .int y45] [.int 5, .ref 147] (md wc f43 A) _
                      refine mz_put7 (jj := 103) (by decide +kernel) (by decide +kernel) hc hIy44 (fun f168 ef168 hIf168 => ?_)
                      refine pe_aload_n (j := 0) (by decide +kernel) rfl ?_
                      refine pe_aload_n (j := 0) (by decide +kernel) rfl ?_
                      refine pe_get (j := 103) (ci := 12) (n := 7) (by decide +kernel) (by decide +kernel) (md_o hc) rfl ?_
                      refine pe_top (v := 5) (upf_at ef168) ?_
                      refine pe_bipushv (n := 99) (v := 99) (by decide +kernel) (by decide +kernel) ?_
                      refine pz_icmp_ne (off := 7) (t := 176) (by decide +kernel) (by decide) rfl kz_5 kz_99 (fun h169 => ?_) (fun h169 => by omega)
                      refine pe_iconstv (n := 3) (v := 3) (by decide +kernel) (by decide +kernel) ?_
                      refine mz_put5 (jj := 93) (by decide +kernel) (by decide +kernel) hc hIf168 (by decide +kernel) (by decide +kernel) (fun f170 ef170 hIf170 => ?_)
                      refine pe_goto (off := 128) (t := 308) (by decide +kernel) (by decide) rfl ?_
                      exact pe_vret (by decide +kernel) rfl ⟨f170, rfl, hIf170, (fun k n3 n4 n5 n6 n7 => (upf_fr ef170 n5).trans ((upf_fr ef168 n7).trans (((hGhIy44 k n3)).trans ((upf_fr ef3 n4).trans ((hGhIy2 k n3)))))), trivial⟩
                  · skip
                    refine pe_iconstv (n := 4) (v := 4) (by decide +kernel) (by decide +kernel) ?_
                    refine pe_iret (by decide +kernel) rfl rfl ⟨rfl, rfl, ?_⟩
                    show pmE pg X pg_tyl pg_cl (d + 2) 201 159 [.ref 147, .int v8, .int y45] [.int 4, .ref 147] (md wc f43 A) _
                    refine mz_put7 (jj := 103) (by decide +kernel) (by decide +kernel) hc hIy44 (fun f171 ef171 hIf171 => ?_)
                    refine pe_aload_n (j := 0) (by decide +kernel) rfl ?_
                    refine pe_aload_n (j := 0) (by decide +kernel) rfl ?_
                    refine pe_get (j := 103) (ci := 12) (n := 7) (by decide +kernel) (by decide +kernel) (md_o hc) rfl ?_
                    refine pe_top (v := 4) (upf_at ef171) ?_
                    refine pe_bipushv (n := 99) (v := 99) (by decide +kernel) (by decide +kernel) ?_
                    refine pz_icmp_ne (off := 7) (t := 176) (by decide +kernel) (by decide) rfl kz_4 kz_99 (fun h172 => ?_) (fun h172 => by omega)
                    refine pe_iconstv (n := 3) (v := 3) (by decide +kernel) (by decide +kernel) ?_
                    refine mz_put5 (jj := 93) (by decide +kernel) (by decide +kernel) hc hIf171 (by decide +kernel) (by decide +kernel) (fun f173 ef173 hIf173 => ?_)
                    refine pe_goto (off := 128) (t := 308) (by decide +kernel) (by decide) rfl ?_
                    exact pe_vret (by decide +kernel) rfl ⟨f173, rfl, hIf173, (fun k n3 n4 n5 n6 n7 => (upf_fr ef173 n5).trans ((upf_fr ef171 n7).trans (((hGhIy44 k n3)).trans ((upf_fr ef3 n4).trans ((hGhIy2 k n3)))))), trivial⟩
                · skip
                  refine pe_iconstv (n := 3) (v := 3) (by decide +kernel) (by decide +kernel) ?_
                  refine pe_iret (by decide +kernel) rfl rfl ⟨rfl, rfl, ?_⟩
                  show pmE pg X pg_tyl pg_cl (d + 2) 201 159 [.ref 147, .int v8, .int y45] [.int 3, .ref 147] (md wc f43 A) _
                  refine mz_put7 (jj := 103) (by decide +kernel) (by decide +kernel) hc hIy44 (fun f174 ef174 hIf174 => ?_)
                  refine pe_aload_n (j := 0) (by decide +kernel) rfl ?_
                  refine pe_aload_n (j := 0) (by decide +kernel) rfl ?_
                  refine pe_get (j := 103) (ci := 12) (n := 7) (by decide +kernel) (by decide +kernel) (md_o hc) rfl ?_
                  refine pe_top (v := 3) (upf_at ef174) ?_
                  refine pe_bipushv (n := 99) (v := 99) (by decide +kernel) (by decide +kernel) ?_
                  refine pz_icmp_ne (off := 7) (t := 176) (by decide +kernel) (by decide) rfl kz_3 kz_99 (fun h175 => ?_) (fun h175 => by omega)
                  refine pe_iconstv (n := 3) (v := 3) (by decide +kernel) (by decide +kernel) ?_
                  refine mz_put5 (jj := 93) (by decide +kernel) (by decide +kernel) hc hIf174 (by decide +kernel) (by decide +kernel) (fun f176 ef176 hIf176 => ?_)
                  refine pe_goto (off := 128) (t := 308) (by decide +kernel) (by decide) rfl ?_
                  exact pe_vret (by decide +kernel) rfl ⟨f176, rfl, hIf176, (fun k n3 n4 n5 n6 n7 => (upf_fr ef176 n5).trans ((upf_fr ef174 n7).trans (((hGhIy44 k n3)).trans ((upf_fr ef3 n4).trans ((hGhIy2 k n3)))))), trivial⟩
              · skip
                refine pe_iconstv (n := 2) (v := 2) (by decide +kernel) (by decide +kernel) ?_
                refine pe_iret (by decide +kernel) rfl rfl ⟨rfl, rfl, ?_⟩
                show pmE pg X pg_tyl pg_cl (d + 2) 201 159 [.ref 147, .int v8, .int y45] [.int 2, .ref 147] (md wc f43 A) _
                refine mz_put7 (jj := 103) (by decide +kernel) (by decide +kernel) hc hIy44 (fun f177 ef177 hIf177 => ?_)
                refine pe_aload_n (j := 0) (by decide +kernel) rfl ?_
                refine pe_aload_n (j := 0) (by decide +kernel) rfl ?_
                refine pe_get (j := 103) (ci := 12) (n := 7) (by decide +kernel) (by decide +kernel) (md_o hc) rfl ?_
                refine pe_top (v := 2) (upf_at ef177) ?_
                refine pe_bipushv (n := 99) (v := 99) (by decide +kernel) (by decide +kernel) ?_
                refine pz_icmp_ne (off := 7) (t := 176) (by decide +kernel) (by decide) rfl kz_2 kz_99 (fun h178 => ?_) (fun h178 => by omega)
                refine pe_iconstv (n := 3) (v := 3) (by decide +kernel) (by decide +kernel) ?_
                refine mz_put5 (jj := 93) (by decide +kernel) (by decide +kernel) hc hIf177 (by decide +kernel) (by decide +kernel) (fun f179 ef179 hIf179 => ?_)
                refine pe_goto (off := 128) (t := 308) (by decide +kernel) (by decide) rfl ?_
                exact pe_vret (by decide +kernel) rfl ⟨f179, rfl, hIf179, (fun k n3 n4 n5 n6 n7 => (upf_fr ef179 n5).trans ((upf_fr ef177 n7).trans (((hGhIy44 k n3)).trans ((upf_fr ef3 n4).trans ((hGhIy2 k n3)))))), trivial⟩
            · skip
              refine pe_iconstv (n := 1) (v := 1) (by decide +kernel) (by decide +kernel) ?_
              refine pe_iret (by decide +kernel) rfl rfl ⟨rfl, rfl, ?_⟩
              show pmE pg X pg_tyl pg_cl (d + 2) 201 159 [.ref 147, .int v8, .int y45] [.int 1, .ref 147] (md wc f43 A) _
              refine mz_put7 (jj := 103) (by decide +kernel) (by decide +kernel) hc hIy44 (fun f180 ef180 hIf180 => ?_)
              refine pe_aload_n (j := 0) (by decide +kernel) rfl ?_
              refine pe_aload_n (j := 0) (by decide +kernel) rfl ?_
              refine pe_get (j := 103) (ci := 12) (n := 7) (by decide +kernel) (by decide +kernel) (md_o hc) rfl ?_
              refine pe_top (v := 1) (upf_at ef180) ?_
              refine pe_bipushv (n := 99) (v := 99) (by decide +kernel) (by decide +kernel) ?_
              refine pz_icmp_ne (off := 7) (t := 176) (by decide +kernel) (by decide) rfl kz_1 kz_99 (fun h181 => ?_) (fun h181 => by omega)
              refine pe_iconstv (n := 3) (v := 3) (by decide +kernel) (by decide +kernel) ?_
              refine mz_put5 (jj := 93) (by decide +kernel) (by decide +kernel) hc hIf180 (by decide +kernel) (by decide +kernel) (fun f182 ef182 hIf182 => ?_)
              refine pe_goto (off := 128) (t := 308) (by decide +kernel) (by decide) rfl ?_
              exact pe_vret (by decide +kernel) rfl ⟨f182, rfl, hIf182, (fun k n3 n4 n5 n6 n7 => (upf_fr ef182 n5).trans ((upf_fr ef180 n7).trans (((hGhIy44 k n3)).trans ((upf_fr ef3 n4).trans ((hGhIy2 k n3)))))), trivial⟩
          · skip
            clear hz46
            refine pe_bipushv (n := 99) (v := 99) (by decide +kernel) (by decide +kernel) ?_
            refine pe_goto (off := 7) (t := 159) (by decide +kernel) (by decide) rfl ?_
            refine mz_put7 (jj := 103) (by decide +kernel) (by decide +kernel) hc hIy44 (fun f183 ef183 hIf183 => ?_)
            refine pe_aload_n (j := 0) (by decide +kernel) rfl ?_
            refine pe_aload_n (j := 0) (by decide +kernel) rfl ?_
            refine pe_get (j := 103) (ci := 12) (n := 7) (by decide +kernel) (by decide +kernel) (md_o hc) rfl ?_
            refine pe_top (v := 99) (upf_at ef183) ?_
            refine pe_bipushv (n := 99) (v := 99) (by decide +kernel) (by decide +kernel) ?_
            refine pz_icmp_ne (off := 7) (t := 176) (by decide +kernel) (by decide) rfl kz_99 kz_99 (fun h184 => by omega) (fun h184 => ?_)
            refine pe_iconstv (n := 4) (v := 4) (by decide +kernel) (by decide +kernel) ?_
            refine pe_goto (off := 4) (t := 177) (by decide +kernel) (by decide) rfl ?_
            refine mz_put5 (jj := 93) (by decide +kernel) (by decide +kernel) hc hIf183 (by decide +kernel) (by decide +kernel) (fun f185 ef185 hIf185 => ?_)
            refine pe_goto (off := 128) (t := 308) (by decide +kernel) (by decide) rfl ?_
            exact pe_vret (by decide +kernel) rfl ⟨f185, rfl, hIf185, (fun k n3 n4 n5 n6 n7 => (upf_fr ef185 n5).trans ((upf_fr ef183 n7).trans (((hGhIy44 k n3)).trans ((upf_fr ef3 n4).trans ((hGhIy2 k n3)))))), trivial⟩
    · skip
      refine pe_aload_n (j := 0) (by decide +kernel) rfl ?_
      refine pe_iconstv (n := 0) (v := 0) (by decide +kernel) (by decide +kernel) ?_
      refine mz_put5 (jj := 93) (by decide +kernel) (by decide +kernel) hc hIf3 (by decide +kernel) (by decide +kernel) (fun f186 ef186 hIf186 => ?_)
      refine pe_goto (off := 243) (t := 308) (by decide +kernel) (by decide) rfl ?_
      exact pe_vret (by decide +kernel) rfl ⟨f186, rfl, hIf186, (fun k n3 n4 n5 n6 n7 => (upf_fr ef186 n5).trans ((upf_fr ef3 n4).trans ((hGhIy2 k n3)))), trivial⟩
