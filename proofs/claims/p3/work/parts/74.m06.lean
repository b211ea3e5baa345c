set_option maxRecDepth 100000 in
set_option maxHeartbeats 8000000 in
theorem MM_303 {X : pm_X} {d : Nat} {wc : pm_W} {f : Nat → Int32} {A : Nat → List Int32} {x1 : Int32} (hc : wc.length = 147) (hI : MI f A) (gx1 : (100 ≤ x1.toInt ∧ x1.toInt ≤ 100)) : pmE pg X pg_tyl pg_cl (d) 303 0 (pm_ent (pm_max pg 303) [.ref 147, .int x1]) [] (md wc f A) (fun q => ∃ (f' : Nat → Int32) (r : Int32), q = (some (.int r), md wc f' A, 0, 0) ∧ MI f' A ∧ (∀ k : Nat, k ≠ 33 → f' k = f k) ∧ (((0 ≤ r.toInt ∧ r.toInt ≤ 99) ∧ True))) := by
  show pmE pg X pg_tyl pg_cl (d) 303 0 [.ref 147, .int x1] [] (md wc f A) _
  refine pe_aload_n (j := 0) (by decide +kernel) rfl ?_
  refine pe_aload_n (j := 0) (by decide +kernel) rfl ?_
  refine pe_get (j := 364) (ci := 12) (n := 33) (by decide +kernel) (by decide +kernel) (md_o hc) rfl ?_
  refine pe_ldc_w (j := 367) (v := 1103515245) (by decide +kernel) (by decide +kernel) ?_
  refine pw_mul (by decide +kernel) (fun z1 => ?_)
  refine pe_sipushv (n := 12345) (v := 12345) (by decide +kernel) (by decide +kernel) ?_
  refine pw_add (by decide +kernel) (fun z2 => ?_)
  refine mz_put33 (jj := 364) (by decide +kernel) (by decide +kernel) hc hI (fun f3 ef3 hIf3 => ?_)
  refine pe_aload_n (j := 0) (by decide +kernel) rfl ?_
  refine pe_get (j := 364) (ci := 12) (n := 33) (by decide +kernel) (by decide +kernel) (md_o hc) rfl ?_
  refine pe_top (v := z2) (upf_at ef3) ?_
  refine pe_bipushv (n := 16) (v := 16) (by decide +kernel) (by decide +kernel) ?_
  refine pz_ushr16 (by decide +kernel) (fun z4 hz4 => ?_)
  refine pe_iload_n (j := 1) (by decide +kernel) rfl ?_
  refine pz_rem (by decide +kernel) rfl rfl (by omega) (by omega) (fun z5 hz5 gz5 kz5 => ?_)
  clear hz5
  exact pe_iret (by decide +kernel) rfl rfl ⟨f3, z5, rfl, hIf3, (fun k n33 => upf_fr ef3 n33), ⟨(by omega), trivial⟩⟩
set_option maxRecDepth 100000 in
set_option maxHeartbeats 8000000 in
theorem ML_257_2 {X : pm_X} {d : Nat} {wc : pm_W} {Q : pm_R → Prop} {f : Nat → Int32} {A : Nat → List Int32} {x1 : Int32} (hc : wc.length = 147) (hI : MI f A) (gx1 : ((-1) ≤ x1.toInt ∧ x1.toInt ≤ 8)) (k_51_0 : ∀ (y2 : Int32), (81 ≤ y2.toInt ∧ y2.toInt ≤ 81) → pmE pg X pg_tyl pg_cl (d) 257 51 [.ref 147, .int x1, .int y2] [] (md wc f A) Q) (kr_v : ∀ (r : Int32), (0 ≤ r.toInt ∧ r.toInt ≤ 8) → Q (some (.int r), md wc f A, 0, 0)) : ∀ (m : Nat) (x2 : Int32), (0 ≤ x2.toInt ∧ x2.toInt ≤ 81) → 81 - x2.toInt < (m : Int) → pmE pg X pg_tyl pg_cl (d) 257 2 [.ref 147, .int x1, .int x2] [] (md wc f A) Q := by
  intro m
  induction m with
  | zero =>
    intro x2 gx2 hm
    exfalso
    have l0 := zi_lo x2
    have u0 := zi_hi x2
    omega
  | succ m ih =>
    intro x2 gx2 hm
    refine pe_iload_n (j := 2) (by decide +kernel) rfl ?_
    refine pe_bipushv (n := 81) (v := 81) (by decide +kernel) (by decide +kernel) ?_
    refine pz_icmp_ge (off := 46) (t := 51) (by decide +kernel) (by decide) rfl rfl kz_81 (fun h1 => ?_) (fun h1 => ?_)
    · skip
      exact k_51_0 x2 (by omega)
    · skip
      refine pe_aload_n (j := 0) (by decide +kernel) rfl ?_
      refine pe_get (j := 23) (ci := 12) (n := 12) (by decide +kernel) (by decide +kernel) (md_o hc) rfl ?_
      refine pe_iload_n (j := 2) (by decide +kernel) rfl ?_
      refine mz_ld152 (by decide +kernel) hc hI rfl (by omega) (by omega) (fun v2 ev2 => ?_)
      have lw4 := zi_lo v2
      have uw4 := zi_hi v2
      refine pz_if_le (off := 31) (t := 45) (by decide +kernel) (by decide) rfl rfl (fun h3 => ?_) (fun h3 => ?_)
      · skip
        refine pz_iinc (j := 2) (n := 1) (by decide +kernel) rfl rfl (by decide +kernel) (by omega) (by omega) (fun z5 hz5 => ?_)
        show pmE pg X pg_tyl pg_cl (d) 257 48 [.ref 147, .int x1, .int z5] [] (md wc f A) _
        refine pe_goto (off := (-46)) (t := 2) (by decide +kernel) (by decide) rfl ?_
        exact ih z5 (by omega) (by omega)
      · skip
        refine pe_iload_n (j := 1) (by decide +kernel) rfl ?_
        refine pz_if_lt (off := 11) (t := 29) (by decide +kernel) (by decide) rfl rfl (fun h6 => ?_) (fun h6 => ?_)
        · skip
          refine pe_iload_n (j := 1) (by decide +kernel) rfl ?_
          refine pz_if_ge (off := 10) (t := 40) (by decide +kernel) (by decide) rfl rfl (fun h7 => by omega) (fun h7 => ?_)
          refine pe_iload_n (j := 2) (by decide +kernel) rfl ?_
          refine pe_bipushv (n := 9) (v := 9) (by decide +kernel) (by decide +kernel) ?_
          refine pz_div (by decide +kernel) rfl kz_9 (by omega) (by omega) (fun z8 hz8 => ?_)
          refine pe_goto (off := 7) (t := 44) (by decide +kernel) (by decide) rfl ?_
          exact pe_iret (by decide +kernel) rfl rfl (kr_v z8 (by omega))
        · skip
          refine pe_iload_n (j := 2) (by decide +kernel) rfl ?_
          refine pe_bipushv (n := 9) (v := 9) (by decide +kernel) (by decide +kernel) ?_
          refine pz_div (by decide +kernel) rfl kz_9 (by omega) (by omega) (fun z9 hz9 => ?_)
          refine pe_iload_n (j := 1) (by decide +kernel) rfl ?_
          refine pz_icmp_ne (off := 19) (t := 45) (by decide +kernel) (by decide) rfl rfl rfl (fun h10 => ?_) (fun h10 => ?_)
          · skip
            refine pz_iinc (j := 2) (n := 1) (by decide +kernel) rfl rfl (by decide +kernel) (by omega) (by omega) (fun z11 hz11 => ?_)
            show pmE pg X pg_tyl pg_cl (d) 257 48 [.ref 147, .int x1, .int z11] [] (md wc f A) _
            refine pe_goto (off := (-46)) (t := 2) (by decide +kernel) (by decide) rfl ?_
            exact ih z11 (by omega) (by omega)
          · skip
            refine pe_iload_n (j := 1) (by decide +kernel) rfl ?_
            refine pz_if_ge (off := 10) (t := 40) (by decide +kernel) (by decide) rfl rfl (fun h12 => ?_) (fun h12 => by omega)
            refine pe_iload_n (j := 2) (by decide +kernel) rfl ?_
            refine pe_bipushv (n := 9) (v := 9) (by decide +kernel) (by decide +kernel) ?_
            refine pz_rem (by decide +kernel) rfl kz_9 (by omega) (by omega) (fun z13 hz13 gz13 kz13 => ?_)
            exact pe_iret (by decide +kernel) rfl rfl (kr_v z13 (by omega))
set_option maxRecDepth 100000 in
set_option maxHeartbeats 8000000 in
theorem MM_257 {X : pm_X} {d : Nat} {wc : pm_W} {f : Nat → Int32} {A : Nat → List Int32} {x1 : Int32} (hc : wc.length = 147) (hI : MI f A) (gx1 : ((-1) ≤ x1.toInt ∧ x1.toInt ≤ 8)) : pmE pg X pg_tyl pg_cl (d) 257 0 (pm_ent (pm_max pg 257) [.ref 147, .int x1]) [] (md wc f A) (fun q => ∃ (r : Int32), q = (some (.int r), md wc f A, 0, 0) ∧ ((((-1) ≤ r.toInt ∧ r.toInt ≤ 8) ∧ True))) := by
  show pmE pg X pg_tyl pg_cl (d) 257 0 [.ref 147, .int x1, pm_dead] [] (md wc f A) _
  refine pe_iconstv (n := 0) (v := 0) (by decide +kernel) (by decide +kernel) ?_
  refine pe_istore_n (j := 2) (ls' := [.ref 147, .int x1, .int 0]) (by decide +kernel) (Nat.le_of_ble_eq_true rfl) rfl ?_
  refine ML_257_2 hc hI (by omega) (fun y1 gy1 => ?_) (fun r2 gr2 => ⟨r2, rfl, ⟨(by omega), trivial⟩⟩) 82 0 (by decide +kernel) (by decide +kernel)
  refine pe_iconstv (n := (-1)) (v := (-1)) (by decide +kernel) (by decide +kernel) ?_
  exact pe_iret (by decide +kernel) rfl rfl ⟨(-1), rfl, ⟨(by decide +kernel), trivial⟩⟩
set_option maxRecDepth 100000 in
set_option maxHeartbeats 8000000 in
theorem ML_201_195 {X : pm_X} {d : Nat} {wc : pm_W} {Q : pm_R → Prop} {A : Nat → List Int32} {f0 : Nat → Int32} {x1 : Int32} (hc : wc.length = 147) (gx1 : (48 ≤ x1.toInt ∧ x1.toInt ≤ 57)) (k_258_0 : ∀ (f' : Nat → Int32), MI f' A → (∀ k : Nat, k ≠ 3 → k ≠ 6 → f' k = f0 k) → pmE pg X pg_tyl pg_cl (d + 2) 201 258 [.ref 147, .int x1, pm_dead] [] (md wc f' A) Q) : ∀ (m : Nat) (f : Nat → Int32), MI f A → (∀ k : Nat, k ≠ 3 → k ≠ 6 → f k = f0 k) → 600 - (f 3).toInt < (m : Int) → pmE pg X pg_tyl pg_cl (d + 2) 201 195 [.ref 147, .int x1, pm_dead] [] (md wc f A) Q := by
  intro m
  induction m with
  | zero =>
    intro f hI hG hm
    exfalso
    have h := hI.1 3
    simp only [MF] at h
    omega
  | succ m ih =>
    intro f hI hG hm
    refine pe_aload_n (j := 0) (by decide +kernel) rfl ?_
    refine pe_aload_n (j := 0) (by decide +kernel) rfl ?_
    refine pe_get (j := 83) (ci := 12) (n := 3) (by decide +kernel) (by decide +kernel) (md_o hc) rfl ?_
    have hr_3_f := hI.1 3
    simp only [MF] at hr_3_f
    refine pi_V (j := 86) (mj := 202) (by decide +kernel) (cll_V (args := [.int (f 3)]) (n := 1) (by decide +kernel) rfl rfl (md_o hc) (by decide +kernel) (Nat.le_of_ble_eq_true rfl) (Nat.le_of_ble_eq_true rfl)) ?_
    show pmE pg X pg_tyl pg_cl (d + 1) 202 0 [.ref 147, .int (f 3)] [] (md wc f A) _
    refine pe_iload_n (j := 1) (by decide +kernel) rfl ?_
    refine pe_aload_n (j := 0) (by decide +kernel) rfl ?_
    refine pe_get (j := 75) (ci := 12) (n := 2) (by decide +kernel) (by decide +kernel) (md_o hc) rfl ?_
    have hr_2_f := hI.1 2
    simp only [MF] at hr_2_f
    refine pz_icmp_ge (off := 15) (t := 20) (by decide +kernel) (by decide) rfl rfl rfl (fun h1 => ?_) (fun h1 => ?_)
    · skip
      refine pe_iconstv (n := (-1)) (v := (-1)) (by decide +kernel) (by decide +kernel) ?_
      refine pe_iret (by decide +kernel) rfl rfl ⟨rfl, rfl, ?_⟩
      show pmE pg X pg_tyl pg_cl (d + 2) 201 203 [.ref 147, .int x1, pm_dead] [.int (-1)] (md wc f A) _
      refine pi_S (j := 106) (mj := 206) (by decide +kernel) (by decide +kernel) rfl ?_
      show pmE pg X pg_tyl pg_cl (d + 1) 206 0 [.int (-1)] [] (md wc f A) _
      refine pe_iload_n (j := 0) (by decide +kernel) rfl ?_
      refine pe_bipushv (n := 48) (v := 48) (by decide +kernel) (by decide +kernel) ?_
      refine pz_icmp_lt (off := 13) (t := 16) (by decide +kernel) (by decide) rfl kz_m1 kz_48 (fun h2 => ?_) (fun h2 => by omega)
      refine pe_iconstv (n := 0) (v := 0) (by decide +kernel) (by decide +kernel) ?_
      refine pe_iret (by decide +kernel) rfl rfl ⟨rfl, rfl, ?_⟩
      show pmE pg X pg_tyl pg_cl (d + 2) 201 206 [.ref 147, .int x1, pm_dead] [.int 0] (md wc f A) _
      refine pz_if_eq (off := 52) (t := 258) (by decide +kernel) (by decide) rfl kz_0 (fun h3 => ?_) (fun h3 => by omega)
      exact k_258_0 f hI (fun k n3 n6 => (hG k n3 n6))
    · skip
      refine pe_aload_n (j := 0) (by decide +kernel) rfl ?_
      refine pe_get (j := 7) (ci := 12) (n := 0) (by decide +kernel) (by decide +kernel) (md_o hc) rfl ?_
      refine pe_bipushv (n := 10) (v := 10) (by decide +kernel) (by decide +kernel) ?_
      refine pe_iload_n (j := 1) (by decide +kernel) rfl ?_
      refine pz_add (by decide +kernel) kz_10 rfl (by omega) (by omega) (fun z4 hz4 => ?_)
      refine mz_ld148 (by decide +kernel) hc hI hz4 (by omega) (by omega) (fun v5 ev5 pv5 => ?_)
      clear pv5
      clear hz4
      refine pe_goto (off := 4) (t := 21) (by decide +kernel) (by decide) rfl ?_
      refine pe_iret (by decide +kernel) rfl rfl ⟨rfl, rfl, ?_⟩
      show pmE pg X pg_tyl pg_cl (d + 2) 201 203 [.ref 147, .int x1, pm_dead] [.int v5] (md wc f A) _
      refine pi_S (j := 106) (mj := 206) (by decide +kernel) (by decide +kernel) rfl ?_
      show pmE pg X pg_tyl pg_cl (d + 1) 206 0 [.int v5] [] (md wc f A) _
      refine pe_iload_n (j := 0) (by decide +kernel) rfl ?_
      refine pe_bipushv (n := 48) (v := 48) (by decide +kernel) (by decide +kernel) ?_
      have lw7 := zi_lo v5
      have uw7 := zi_hi v5
      refine pz_icmp_lt (off := 13) (t := 16) (by decide +kernel) (by decide) rfl rfl kz_48 (fun h6 => ?_) (fun h6 => ?_)
      · skip
        refine pe_iconstv (n := 0) (v := 0) (by decide +kernel) (by decide +kernel) ?_
        refine pe_iret (by decide +kernel) rfl rfl ⟨rfl, rfl, ?_⟩
        show pmE pg X pg_tyl pg_cl (d + 2) 201 206 [.ref 147, .int x1, pm_dead] [.int 0] (md wc f A) _
        refine pz_if_eq (off := 52) (t := 258) (by decide +kernel) (by decide) rfl kz_0 (fun h8 => ?_) (fun h8 => by omega)
        exact k_258_0 f hI (fun k n3 n6 => (hG k n3 n6))
      · skip
        refine pe_iload_n (j := 0) (by decide +kernel) rfl ?_
        refine pe_bipushv (n := 57) (v := 57) (by decide +kernel) (by decide +kernel) ?_
        refine pz_icmp_gt (off := 7) (t := 16) (by decide +kernel) (by decide) rfl rfl kz_57 (fun h9 => ?_) (fun h9 => ?_)
        · skip
          refine pe_iconstv (n := 0) (v := 0) (by decide +kernel) (by decide +kernel) ?_
          refine pe_iret (by decide +kernel) rfl rfl ⟨rfl, rfl, ?_⟩
          show pmE pg X pg_tyl pg_cl (d + 2) 201 206 [.ref 147, .int x1, pm_dead] [.int 0] (md wc f A) _
          refine pz_if_eq (off := 52) (t := 258) (by decide +kernel) (by decide) rfl kz_0 (fun h10 => ?_) (fun h10 => by omega)
          exact k_258_0 f hI (fun k n3 n6 => (hG k n3 n6))
        · skip
          refine pe_iconstv (n := 1) (v := 1) (by decide +kernel) (by decide +kernel) ?_
          refine pe_goto (off := 4) (t := 17) (by decide +kernel) (by decide) rfl ?_
          refine pe_iret (by decide +kernel) rfl rfl ⟨rfl, rfl, ?_⟩
          show pmE pg X pg_tyl pg_cl (d + 2) 201 206 [.ref 147, .int x1, pm_dead] [.int 1] (md wc f A) _
          refine pz_if_eq (off := 52) (t := 258) (by decide +kernel) (by decide) rfl kz_1 (fun h11 => by omega) (fun h11 => ?_)
          refine pe_aload_n (j := 0) (by decide +kernel) rfl ?_
          refine pe_get (j := 83) (ci := 12) (n := 3) (by decide +kernel) (by decide +kernel) (md_o hc) rfl ?_
          refine pe_aload_n (j := 0) (by decide +kernel) rfl ?_
          refine pe_get (j := 90) (ci := 12) (n := 4) (by decide +kernel) (by decide +kernel) (md_o hc) rfl ?_
          refine pw_sub (by decide +kernel) (fun z12 => ?_)
          refine pe_iconstv (n := 2) (v := 2) (by decide +kernel) (by decide +kernel) ?_
          have lw14 := zi_lo z12
          have uw14 := zi_hi z12
          refine pz_icmp_ge (off := 26) (t := 245) (by decide +kernel) (by decide) rfl rfl kz_2 (fun h13 => ?_) (fun h13 => ?_)
          · skip
            refine pe_aload_n (j := 0) (by decide +kernel) rfl ?_
            refine pe_dup (by decide +kernel) rfl ?_
            refine pe_get (j := 83) (ci := 12) (n := 3) (by decide +kernel) (by decide +kernel) (md_o hc) rfl ?_
            refine pe_iconstv (n := 1) (v := 1) (by decide +kernel) (by decide +kernel) ?_
            refine pz_add (by decide +kernel) rfl kz_1 (by omega) (by omega) (fun z15 hz15 => ?_)
            refine mz_put3 (jj := 83) (by decide +kernel) (by decide +kernel) hc hI (by omega) (by omega) (fun f16 ef16 hIf16 => ?_)
            refine pe_goto (off := (-60)) (t := 195) (by decide +kernel) (by decide) rfl ?_
            have hn_f16 : (f16 3).toInt = ((f 3).toInt + 1) := (congrArg Int32.toInt (show f16 3 = z15 from upf_at ef16)).trans hz15
            exact ih f16 hIf16 (fun k n3 n6 => (upf_fr ef16 n3).trans ((hG k n3 n6))) (by omega)
          · skip
            refine pe_aload_n (j := 0) (by decide +kernel) rfl ?_
            refine pe_bipushv (n := 10) (v := 10) (by decide +kernel) (by decide +kernel) ?_
            refine pe_aload_n (j := 0) (by decide +kernel) rfl ?_
            refine pe_get (j := 109) (ci := 12) (n := 6) (by decide +kernel) (by decide +kernel) (md_o hc) rfl ?_
            refine pw_mul (by decide +kernel) (fun z17 => ?_)
            refine pe_aload_n (j := 0) (by decide +kernel) rfl ?_
            refine pe_aload_n (j := 0) (by decide +kernel) rfl ?_
            refine pe_get (j := 83) (ci := 12) (n := 3) (by decide +kernel) (by decide +kernel) (md_o hc) rfl ?_
            refine pi_V (j := 86) (mj := 202) (by decide +kernel) (cll_V (args := [.int (f 3)]) (n := 1) (by decide +kernel) rfl rfl (md_o hc) (by decide +kernel) (Nat.le_of_ble_eq_true rfl) (Nat.le_of_ble_eq_true rfl)) ?_
            show pmE pg X pg_tyl pg_cl (d + 1) 202 0 [.ref 147, .int (f 3)] [] (md wc f A) _
            refine pe_iload_n (j := 1) (by decide +kernel) rfl ?_
            refine pe_aload_n (j := 0) (by decide +kernel) rfl ?_
            refine pe_get (j := 75) (ci := 12) (n := 2) (by decide +kernel) (by decide +kernel) (md_o hc) rfl ?_
            refine pz_icmp_ge (off := 15) (t := 20) (by decide +kernel) (by decide) rfl rfl rfl (fun h18 => ?_) (fun h18 => ?_)
            · skip
              refine pe_iconstv (n := (-1)) (v := (-1)) (by decide +kernel) (by decide +kernel) ?_
              refine pe_iret (by decide +kernel) rfl rfl ⟨rfl, rfl, ?_⟩
              show pmE pg X pg_tyl pg_cl (d + 2) 201 238 [.ref 147, .int x1, pm_dead] [.int (-1), .int z17, .ref 147] (md wc f A) _
              refine pw_add (by decide +kernel) (fun z19 => ?_)
              refine pe_bipushv (n := 48) (v := 48) (by decide +kernel) (by decide +kernel) ?_
              refine pw_sub (by decide +kernel) (fun z20 => ?_)
              refine mz_put6 (jj := 109) (by decide +kernel) (by decide +kernel) hc hI (fun f21 ef21 hIf21 => ?_)
              refine pe_aload_n (j := 0) (by decide +kernel) rfl ?_
              refine pe_dup (by decide +kernel) rfl ?_
              refine pe_get (j := 83) (ci := 12) (n := 3) (by decide +kernel) (by decide +kernel) (md_o hc) rfl ?_
              refine pe_top (v := (f 3)) (upf_fr ef21 (by decide)) ?_
              refine pe_iconstv (n := 1) (v := 1) (by decide +kernel) (by decide +kernel) ?_
              refine pz_add (by decide +kernel) rfl kz_1 (by omega) (by omega) (fun z22 hz22 => ?_)
              refine mz_put3 (jj := 83) (by decide +kernel) (by decide +kernel) hc hIf21 (by omega) (by omega) (fun f23 ef23 hIf23 => ?_)
              refine pe_goto (off := (-60)) (t := 195) (by decide +kernel) (by decide) rfl ?_
              have hn_f23 : (f23 3).toInt = ((f 3).toInt + 1) := (congrArg Int32.toInt (show f23 3 = z22 from upf_at ef23)).trans hz22
              exact ih f23 hIf23 (fun k n3 n6 => (upf_fr ef23 n3).trans ((upf_fr ef21 n6).trans ((hG k n3 n6)))) (by omega)
            · skip
              refine pe_aload_n (j := 0) (by decide +kernel) rfl ?_
              refine pe_get (j := 7) (ci := 12) (n := 0) (by decide +kernel) (by decide +kernel) (md_o hc) rfl ?_
              refine pe_bipushv (n := 10) (v := 10) (by decide +kernel) (by decide +kernel) ?_
              refine pe_iload_n (j := 1) (by decide +kernel) rfl ?_
              refine pz_add (by decide +kernel) kz_10 rfl (by omega) (by omega) (fun z24 hz24 => ?_)
              refine mz_ld148 (by decide +kernel) hc hI hz24 (by omega) (by omega) (fun v25 ev25 pv25 => ?_)
              rw [ev25.trans ev5.symm]
              clear pv25 ev25 v25
              clear hz24
              refine pe_goto (off := 4) (t := 21) (by decide +kernel) (by decide) rfl ?_
              refine pe_iret (by decide +kernel) rfl rfl ⟨rfl, rfl, ?_⟩
              show pmE pg X pg_tyl pg_cl (d + 2) 201 238 [.ref 147, .int x1, pm_dead] [.int v5, .int z17, .ref 147] (md wc f A) _
              refine pw_add (by decide +kernel) (fun z26 => ?_)
              refine pe_bipushv (n := 48) (v := 48) (by decide +kernel) (by decide +kernel) ?_
              refine pw_sub (by decide +kernel) (fun z27 => ?_)
              refine mz_put6 (jj := 109) (by decide +kernel) (by decide +kernel) hc hI (fun f28 ef28 hIf28 => ?_)
              refine pe_aload_n (j := 0) (by decide +kernel) rfl ?_
              refine pe_dup (by decide +kernel) rfl ?_
              refine pe_get (j := 83) (ci := 12) (n := 3) (by decide +kernel) (by decide +kernel) (md_o hc) rfl ?_
              refine pe_top (v := (f 3)) (upf_fr ef28 (by decide)) ?_
              refine pe_iconstv (n := 1) (v := 1) (by decide +kernel) (by decide +kernel) ?_
              refine pz_add (by decide +kernel) rfl kz_1 (by omega) (by omega) (fun z29 hz29 => ?_)
              refine mz_put3 (jj := 83) (by decide +kernel) (by decide +kernel) hc hIf28 (by omega) (by omega) (fun f30 ef30 hIf30 => ?_)
              refine pe_goto (off := (-60)) (t := 195) (by decide +kernel) (by decide) rfl ?_
              have hn_f30 : (f30 3).toInt = ((f 3).toInt + 1) := (congrArg Int32.toInt (show f30 3 = z29 from upf_at ef30)).trans hz29
              exact ih f30 hIf30 (fun k n3 n6 => (upf_fr ef30 n3).trans ((upf_fr ef28 n6).trans ((hG k n3 n6)))) (by omega)
set_option maxRecDepth 100000 in
set_option maxHeartbeats 8000000 in
theorem ML_201_77 {X : pm_X} {d : Nat} {wc : pm_W} {Q : pm_R → Prop} {A : Nat → List Int32} {f0 : Nat → Int32} {x1 : Int32} (hc : wc.length = 147) (gx1 : (97 ≤ x1.toInt ∧ x1.toInt ≤ 122)) (k_135_0 : ∀ (f' : Nat → Int32) (y2 : Int32), MI f' A → (∀ k : Nat, k ≠ 3 → f' k = f0 k) → pmE pg X pg_tyl pg_cl (d + 2) 201 135 [.ref 147, .int x1, .int y2] [] (md wc f' A) Q) : ∀ (m : Nat) (f : Nat → Int32) (x2 : Int32), MI f A → (∀ k : Nat, k ≠ 3 → f k = f0 k) → 600 - (f 3).toInt < (m : Int) → pmE pg X pg_tyl pg_cl (d + 2) 201 77 [.ref 147, .int x1, .int x2] [] (md wc f A) Q := by
  intro m
  induction m with
  | zero =>
    intro f x2 hI hG hm
    exfalso
    have h := hI.1 3
    simp only [MF] at h
    omega
  | succ m ih =>
    intro f x2 hI hG hm
    refine pe_aload_n (j := 0) (by decide +kernel) rfl ?_
    refine pe_aload_n (j := 0) (by decide +kernel) rfl ?_
    refine pe_get (j := 83) (ci := 12) (n := 3) (by decide +kernel) (by decide +kernel) (md_o hc) rfl ?_
    have hr_3_f := hI.1 3
    simp only [MF] at hr_3_f
    refine pi_V (j := 86) (mj := 202) (by decide +kernel) (cll_V (args := [.int (f 3)]) (n := 1) (by decide +kernel) rfl rfl (md_o hc) (by decide +kernel) (Nat.le_of_ble_eq_true rfl) (Nat.le_of_ble_eq_true rfl)) ?_
    show pmE pg X pg_tyl pg_cl (d + 1) 202 0 [.ref 147, .int (f 3)] [] (md wc f A) _
    refine pe_iload_n (j := 1) (by decide +kernel) rfl ?_
    refine pe_aload_n (j := 0) (by decide +kernel) rfl ?_
    refine pe_get (j := 75) (ci := 12) (n := 2) (by decide +kernel) (by decide +kernel) (md_o hc) rfl ?_
    have hr_2_f := hI.1 2
    simp only [MF] at hr_2_f
    refine pz_icmp_ge (off := 15) (t := 20) (by decide +kernel) (by decide) rfl rfl rfl (fun h1 => ?_) (fun h1 => ?_)
    · skip
      refine pe_iconstv (n := (-1)) (v := (-1)) (by decide +kernel) (by decide +kernel) ?_
      refine pe_iret (by decide +kernel) rfl rfl ⟨rfl, rfl, ?_⟩
      show pmE pg X pg_tyl pg_cl (d + 2) 201 85 [.ref 147, .int x1, .int x2] [.int (-1)] (md wc f A) _
      refine pi_S (j := 96) (mj := 203) (by decide +kernel) (by decide +kernel) rfl ?_
      show pmE pg X pg_tyl pg_cl (d + 1) 203 0 [.int (-1)] [] (md wc f A) _
      refine pe_iload_n (j := 0) (by decide +kernel) rfl ?_
      refine pe_bipushv (n := 97) (v := 97) (by decide +kernel) (by decide +kernel) ?_
      refine pz_icmp_lt (off := 13) (t := 16) (by decide +kernel) (by decide) rfl kz_m1 kz_97 (fun h2 => ?_) (fun h2 => by omega)
      refine pe_iconstv (n := 0) (v := 0) (by decide +kernel) (by decide +kernel) ?_
      refine pe_iret (by decide +kernel) rfl rfl ⟨rfl, rfl, ?_⟩
      show pmE pg X pg_tyl pg_cl (d + 2) 201 88 [.ref 147, .int x1, .int x2] [.int 0] (md wc f A) _
      refine pz_if_eq (off := 47) (t := 135) (by decide +kernel) (by decide) rfl kz_0 (fun h3 => ?_) (fun h3 => by omega)
      exact k_135_0 f x2 hI (fun k n3 => (hG k n3))
    · skip
      refine pe_aload_n (j := 0) (by decide +kernel) rfl ?_
      refine pe_get (j := 7) (ci := 12) (n := 0) (by decide +kernel) (by decide +kernel) (md_o hc) rfl ?_
      refine pe_bipushv (n := 10) (v := 10) (by decide +kernel) (by decide +kernel) ?_
      refine pe_iload_n (j := 1) (by decide +kernel) rfl ?_
      refine pz_add (by decide +kernel) kz_10 rfl (by omega) (by omega) (fun z4 hz4 => ?_)
      refine mz_ld148 (by decide +kernel) hc hI hz4 (by omega) (by omega) (fun v5 ev5 pv5 => ?_)
      clear pv5
      clear hz4
      refine pe_goto (off := 4) (t := 21) (by decide +kernel) (by decide) rfl ?_
      refine pe_iret (by decide +kernel) rfl rfl ⟨rfl, rfl, ?_⟩
      show pmE pg X pg_tyl pg_cl (d + 2) 201 85 [.ref 147, .int x1, .int x2] [.int v5] (md wc f A) _
      refine pi_S (j := 96) (mj := 203) (by decide +kernel) (by decide +kernel) rfl ?_
      show pmE pg X pg_tyl pg_cl (d + 1) 203 0 [.int v5] [] (md wc f A) _
      refine pe_iload_n (j := 0) (by decide +kernel) rfl ?_
      refine pe_bipushv (n := 97) (v := 97) (by decide +kernel) (by decide +kernel) ?_
      have lw7 := zi_lo v5
      have uw7 := zi_hi v5
      refine pz_icmp_lt (off := 13) (t := 16) (by decide +kernel) (by decide) rfl rfl kz_97 (fun h6 => ?_) (fun h6 => ?_)
      · skip
        refine pe_iconstv (n := 0) (v := 0) (by decide +kernel) (by decide +kernel) ?_
        refine pe_iret (by decide +kernel) rfl rfl ⟨rfl, rfl, ?_⟩
        show pmE pg X pg_tyl pg_cl (d + 2) 201 88 [.ref 147, .int x1, .int x2] [.int 0] (md wc f A) _
        refine pz_if_eq (off := 47) (t := 135) (by decide +kernel) (by decide) rfl kz_0 (fun h8 => ?_) (fun h8 => by omega)
        exact k_135_0 f x2 hI (fun k n3 => (hG k n3))
      · skip
        refine pe_iload_n (j := 0) (by decide +kernel) rfl ?_
        refine pe_bipushv (n := 122) (v := 122) (by decide +kernel) (by decide +kernel) ?_
        refine pz_icmp_gt (off := 7) (t := 16) (by decide +kernel) (by decide) rfl rfl kz_122 (fun h9 => ?_) (fun h9 => ?_)
        · skip
          refine pe_iconstv (n := 0) (v := 0) (by decide +kernel) (by decide +kernel) ?_
          refine pe_iret (by decide +kernel) rfl rfl ⟨rfl, rfl, ?_⟩
          show pmE pg X pg_tyl pg_cl (d + 2) 201 88 [.ref 147, .int x1, .int x2] [.int 0] (md wc f A) _
          refine pz_if_eq (off := 47) (t := 135) (by decide +kernel) (by decide) rfl kz_0 (fun h10 => ?_) (fun h10 => by omega)
          exact k_135_0 f x2 hI (fun k n3 => (hG k n3))
        · skip
          refine pe_iconstv (n := 1) (v := 1) (by decide +kernel) (by decide +kernel) ?_
          refine pe_goto (off := 4) (t := 17) (by decide +kernel) (by decide) rfl ?_
          refine pe_iret (by decide +kernel) rfl rfl ⟨rfl, rfl, ?_⟩
          show pmE pg X pg_tyl pg_cl (d + 2) 201 88 [.ref 147, .int x1, .int x2] [.int 1] (md wc f A) _
          refine pz_if_eq (off := 47) (t := 135) (by decide +kernel) (by decide) rfl kz_1 (fun h11 => by omega) (fun h11 => ?_)
          refine pe_aload_n (j := 0) (by decide +kernel) rfl ?_
          refine pe_get (j := 83) (ci := 12) (n := 3) (by decide +kernel) (by decide +kernel) (md_o hc) rfl ?_
          refine pe_aload_n (j := 0) (by decide +kernel) rfl ?_
          refine pe_get (j := 90) (ci := 12) (n := 4) (by decide +kernel) (by decide +kernel) (md_o hc) rfl ?_
          refine pw_sub (by decide +kernel) (fun z12 => ?_)
          refine pe_bipushv (n := 6) (v := 6) (by decide +kernel) (by decide +kernel) ?_
          have lw14 := zi_lo z12
          have uw14 := zi_hi z12
          refine pz_icmp_ge (off := 20) (t := 122) (by decide +kernel) (by decide) rfl rfl kz_6 (fun h13 => ?_) (fun h13 => ?_)
          · skip
            refine pe_aload_n (j := 0) (by decide +kernel) rfl ?_
            refine pe_dup (by decide +kernel) rfl ?_
            refine pe_get (j := 83) (ci := 12) (n := 3) (by decide +kernel) (by decide +kernel) (md_o hc) rfl ?_
            refine pe_iconstv (n := 1) (v := 1) (by decide +kernel) (by decide +kernel) ?_
            refine pz_add (by decide +kernel) rfl kz_1 (by omega) (by omega) (fun z15 hz15 => ?_)
            refine mz_put3 (jj := 83) (by decide +kernel) (by decide +kernel) hc hI (by omega) (by omega) (fun f16 ef16 hIf16 => ?_)
            refine pe_goto (off := (-55)) (t := 77) (by decide +kernel) (by decide) rfl ?_
            have hn_f16 : (f16 3).toInt = ((f 3).toInt + 1) := (congrArg Int32.toInt (show f16 3 = z15 from upf_at ef16)).trans hz15
            exact ih f16 x2 hIf16 (fun k n3 => (upf_fr ef16 n3).trans ((hG k n3))) (by omega)
          · skip
            refine pe_bipushv (n := 32) (v := 32) (by decide +kernel) (by decide +kernel) ?_
            refine pe_iload_n (j := 2) (by decide +kernel) rfl ?_
            refine pw_mul (by decide +kernel) (fun z17 => ?_)
            refine pe_aload_n (j := 0) (by decide +kernel) rfl ?_
            refine pe_aload_n (j := 0) (by decide +kernel) rfl ?_
            refine pe_get (j := 83) (ci := 12) (n := 3) (by decide +kernel) (by decide +kernel) (md_o hc) rfl ?_
            refine pi_V (j := 86) (mj := 202) (by decide +kernel) (cll_V (args := [.int (f 3)]) (n := 1) (by decide +kernel) rfl rfl (md_o hc) (by decide +kernel) (Nat.le_of_ble_eq_true rfl) (Nat.le_of_ble_eq_true rfl)) ?_
            show pmE pg X pg_tyl pg_cl (d + 1) 202 0 [.ref 147, .int (f 3)] [] (md wc f A) _
            refine pe_iload_n (j := 1) (by decide +kernel) rfl ?_
            refine pe_aload_n (j := 0) (by decide +kernel) rfl ?_
            refine pe_get (j := 75) (ci := 12) (n := 2) (by decide +kernel) (by decide +kernel) (md_o hc) rfl ?_
            refine pz_icmp_ge (off := 15) (t := 20) (by decide +kernel) (by decide) rfl rfl rfl (fun h18 => ?_) (fun h18 => ?_)
            · skip
              refine pe_iconstv (n := (-1)) (v := (-1)) (by decide +kernel) (by decide +kernel) ?_
              refine pe_iret (by decide +kernel) rfl rfl ⟨rfl, rfl, ?_⟩
              show pmE pg X pg_tyl pg_cl (d + 2) 201 117 [.ref 147, .int x1, .int x2] [.int (-1), .int z17] (md wc f A) _
              refine pw_add (by decide +kernel) (fun z19 => ?_)
              refine pe_bipushv (n := 96) (v := 96) (by decide +kernel) (by decide +kernel) ?_
              refine pw_sub (by decide +kernel) (fun z20 => ?_)
              refine pe_istore_n (j := 2) (ls' := [.ref 147, .int x1, .int z20]) (by decide +kernel) (Nat.le_of_ble_eq_true rfl) rfl ?_
              refine pe_aload_n (j := 0) (by decide +kernel) rfl ?_
              refine pe_dup (by decide +kernel) rfl ?_
              refine pe_get (j := 83) (ci := 12) (n := 3) (by decide +kernel) (by decide +kernel) (md_o hc) rfl ?_
              refine pe_iconstv (n := 1) (v := 1) (by decide +kernel) (by decide +kernel) ?_
              refine pz_add (by decide +kernel) rfl kz_1 (by omega) (by omega) (fun z21 hz21 => ?_)
              refine mz_put3 (jj := 83) (by decide +kernel) (by decide +kernel) hc hI (by omega) (by omega) (fun f22 ef22 hIf22 => ?_)
              refine pe_goto (off := (-55)) (t := 77) (by decide +kernel) (by decide) rfl ?_
              have hn_f22 : (f22 3).toInt = ((f 3).toInt + 1) := (congrArg Int32.toInt (show f22 3 = z21 from upf_at ef22)).trans hz21
              exact ih f22 z20 hIf22 (fun k n3 => (upf_fr ef22 n3).trans ((hG k n3))) (by omega)
            · skip
              refine pe_aload_n (j := 0) (by decide +kernel) rfl ?_
              refine pe_get (j := 7) (ci := 12) (n := 0) (by decide +kernel) (by decide +kernel) (md_o hc) rfl ?_
              refine pe_bipushv (n := 10) (v := 10) (by decide +kernel) (by decide +kernel) ?_
              refine pe_iload_n (j := 1) (by decide +kernel) rfl ?_
              refine pz_add (by decide +kernel) kz_10 rfl (by omega) (by omega) (fun z23 hz23 => ?_)
              refine mz_ld148 (by decide +kernel) hc hI hz23 (by omega) (by omega) (fun v24 ev24 pv24 => ?_)
              rw [ev24.trans ev5.symm]
              clear pv24 ev24 v24
              clear hz23
              refine pe_goto (off := 4) (t := 21) (by decide +kernel) (by decide) rfl ?_
              refine pe_iret (by decide +kernel) rfl rfl ⟨rfl, rfl, ?_⟩
              show pmE pg X pg_tyl pg_cl (d + 2) 201 117 [.ref 147, .int x1, .int x2] [.int v5, .int z17] (md wc f A) _
              refine pw_add (by decide +kernel) (fun z25 => ?_)
              refine pe_bipushv (n := 96) (v := 96) (by decide +kernel) (by decide +kernel) ?_
              refine pw_sub (by decide +kernel) (fun z26 => ?_)
              refine pe_istore_n (j := 2) (ls' := [.ref 147, .int x1, .int z26]) (by decide +kernel) (Nat.le_of_ble_eq_true rfl) rfl ?_
              refine pe_aload_n (j := 0) (by decide +kernel) rfl ?_
              refine pe_dup (by decide +kernel) rfl ?_
              refine pe_get (j := 83) (ci := 12) (n := 3) (by decide +kernel) (by decide +kernel) (md_o hc) rfl ?_
              refine pe_iconstv (n := 1) (v := 1) (by decide +kernel) (by decide +kernel) ?_
              refine pz_add (by decide +kernel) rfl kz_1 (by omega) (by omega) (fun z27 hz27 => ?_)
              refine mz_put3 (jj := 83) (by decide +kernel) (by decide +kernel) hc hI (by omega) (by omega) (fun f28 ef28 hIf28 => ?_)
              refine pe_goto (off := (-55)) (t := 77) (by decide +kernel) (by decide) rfl ?_
              have hn_f28 : (f28 3).toInt = ((f 3).toInt + 1) := (congrArg Int32.toInt (show f28 3 = z27 from upf_at ef28)).trans hz27
              exact ih f28 z26 hIf28 (fun k n3 => (upf_fr ef28 n3).trans ((hG k n3))) (by omega)
set_option maxRecDepth 100000 in
set_option maxHeartbeats 8000000 in
theorem ML_201_0 {X : pm_X} {d : Nat} {wc : pm_W} {Q : pm_R → Prop} {A : Nat → List Int32} {f0 : Nat → Int32} (hc : wc.length = 147) (k_39_0 : ∀ (f' : Nat → Int32), MI f' A → (∀ k : Nat, k ≠ 3 → f' k = f0 k) → pmE pg X pg_tyl pg_cl (d + 2) 201 39 [.ref 147, pm_dead, pm_dead] [] (md wc f' A) Q) : ∀ (m : Nat) (f : Nat → Int32), MI f A → (∀ k : Nat, k ≠ 3 → f k = f0 k) → 600 - (f 3).toInt < (m : Int) → pmE pg X pg_tyl pg_cl (d + 2) 201 0 [.ref 147, pm_dead, pm_dead] [] (md wc f A) Q := by
  intro m
  induction m with
  | zero =>
    intro f hI hG hm
    exfalso
    have h := hI.1 3
    simp only [MF] at h
    omega
  | succ m ih =>
    intro f hI hG hm
    refine pe_aload_n (j := 0) (by decide +kernel) rfl ?_
    refine pe_aload_n (j := 0) (by decide +kernel) rfl ?_
    refine pe_get (j := 83) (ci := 12) (n := 3) (by decide +kernel) (by decide +kernel) (md_o hc) rfl ?_
    have hr_3_f := hI.1 3
    simp only [MF] at hr_3_f
    refine pi_V (j := 86) (mj := 202) (by decide +kernel) (cll_V (args := [.int (f 3)]) (n := 1) (by decide +kernel) rfl rfl (md_o hc) (by decide +kernel) (Nat.le_of_ble_eq_true rfl) (Nat.le_of_ble_eq_true rfl)) ?_
    show pmE pg X pg_tyl pg_cl (d + 1) 202 0 [.ref 147, .int (f 3)] [] (md wc f A) _
    refine pe_iload_n (j := 1) (by decide +kernel) rfl ?_
    refine pe_aload_n (j := 0) (by decide +kernel) rfl ?_
    refine pe_get (j := 75) (ci := 12) (n := 2) (by decide +kernel) (by decide +kernel) (md_o hc) rfl ?_
    have hr_2_f := hI.1 2
    simp only [MF] at hr_2_f
    refine pz_icmp_ge (off := 15) (t := 20) (by decide +kernel) (by decide) rfl rfl rfl (fun h1 => ?_) (fun h1 => ?_)
    · skip
      refine pe_iconstv (n := (-1)) (v := (-1)) (by decide +kernel) (by decide +kernel) ?_
      refine pe_iret (by decide +kernel) rfl rfl ⟨rfl, rfl, ?_⟩
      show pmE pg X pg_tyl pg_cl (d + 2) 201 8 [.ref 147, pm_dead, pm_dead] [.int (-1)] (md wc f A) _
      refine pe_bipushv (n := 10) (v := 10) (by decide +kernel) (by decide +kernel) ?_
      refine pz_icmp_eq (off := 16) (t := 26) (by decide +kernel) (by decide) rfl kz_m1 kz_10 (fun h2 => by omega) (fun h2 => ?_)
      refine pe_aload_n (j := 0) (by decide +kernel) rfl ?_
      refine pe_aload_n (j := 0) (by decide +kernel) rfl ?_
      refine pe_get (j := 83) (ci := 12) (n := 3) (by decide +kernel) (by decide +kernel) (md_o hc) rfl ?_
      refine pi_V (j := 86) (mj := 202) (by decide +kernel) (cll_V (args := [.int (f 3)]) (n := 1) (by decide +kernel) rfl rfl (md_o hc) (by decide +kernel) (Nat.le_of_ble_eq_true rfl) (Nat.le_of_ble_eq_true rfl)) ?_
      show pmE pg X pg_tyl pg_cl (d + 1) 202 0 [.ref 147, .int (f 3)] [] (md wc f A) _
      refine pe_iload_n (j := 1) (by decide +kernel) rfl ?_
      refine pe_aload_n (j := 0) (by decide +kernel) rfl ?_
      refine pe_get (j := 75) (ci := 12) (n := 2) (by decide +kernel) (by decide +kernel) (md_o hc) rfl ?_
      refine pz_icmp_ge (off := 15) (t := 20) (by decide +kernel) (by decide) rfl rfl rfl (fun h3 => ?_) (fun h3 => ?_)
      · skip
        refine pe_iconstv (n := (-1)) (v := (-1)) (by decide +kernel) (by decide +kernel) ?_
        refine pe_iret (by decide +kernel) rfl rfl ⟨rfl, rfl, ?_⟩
        show pmE pg X pg_tyl pg_cl (d + 2) 201 21 [.ref 147, pm_dead, pm_dead] [.int (-1)] (md wc f A) _
        refine pe_bipushv (n := 32) (v := 32) (by decide +kernel) (by decide +kernel) ?_
        refine pz_icmp_ne (off := 16) (t := 39) (by decide +kernel) (by decide) rfl kz_m1 kz_32 (fun h4 => ?_) (fun h4 => by omega)
        exact k_39_0 f hI (fun k n3 => (hG k n3))
      · skip
        refine pe_aload_n (j := 0) (by decide +kernel) rfl ?_
        refine pe_get (j := 7) (ci := 12) (n := 0) (by decide +kernel) (by decide +kernel) (md_o hc) rfl ?_
        refine pe_bipushv (n := 10) (v := 10) (by decide +kernel) (by decide +kernel) ?_
        refine pe_iload_n (j := 1) (by decide +kernel) rfl ?_
        refine pz_add (by decide +kernel) kz_10 rfl (by omega) (by omega) (fun z5 hz5 => ?_)
        refine mz_ld148 (by decide +kernel) hc hI hz5 (by omega) (by omega) (fun v6 ev6 pv6 => ?_)
        clear pv6
        clear hz5
        refine pe_goto (off := 4) (t := 21) (by decide +kernel) (by decide) rfl ?_
        refine pe_iret (by decide +kernel) rfl rfl ⟨rfl, rfl, ?_⟩
        show pmE pg X pg_tyl pg_cl (d + 2) 201 21 [.ref 147, pm_dead, pm_dead] [.int v6] (md wc f A) _
        refine pe_bipushv (n := 32) (v := 32) (by decide +kernel) (by decide +kernel) ?_
        have lw8 := zi_lo v6
        have uw8 := zi_hi v6
        refine pz_icmp_ne (off := 16) (t := 39) (by decide +kernel) (by decide) rfl rfl kz_32 (fun h7 => ?_) (fun h7 => ?_)
        · skip
          exact k_39_0 f hI (fun k n3 => (hG k n3))
        · skip
          refine pe_aload_n (j := 0) (by decide +kernel) rfl ?_
          refine pe_dup (by decide +kernel) rfl ?_
          refine pe_get (j := 83) (ci := 12) (n := 3) (by decide +kernel) (by decide +kernel) (md_o hc) rfl ?_
          refine pe_iconstv (n := 1) (v := 1) (by decide +kernel) (by decide +kernel) ?_
          refine pz_add (by decide +kernel) rfl kz_1 (by omega) (by omega) (fun z9 hz9 => ?_)
          refine mz_put3 (jj := 83) (by decide +kernel) (by decide +kernel) hc hI (by omega) (by omega) (fun f10 ef10 hIf10 => ?_)
          refine pe_goto (off := (-36)) (t := 0) (by decide +kernel) (by decide) rfl ?_
          have hn_f10 : (f10 3).toInt = ((f 3).toInt + 1) := (congrArg Int32.toInt (show f10 3 = z9 from upf_at ef10)).trans hz9
          exact ih f10 hIf10 (fun k n3 => (upf_fr ef10 n3).trans ((hG k n3))) (by omega)
    · skip
      refine pe_aload_n (j := 0) (by decide +kernel) rfl ?_
      refine pe_get (j := 7) (ci := 12) (n := 0) (by decide +kernel) (by decide +kernel) (md_o hc) rfl ?_
      refine pe_bipushv (n := 10) (v := 10) (by decide +kernel) (by decide +kernel) ?_
      refine pe_iload_n (j := 1) (by decide +kernel) rfl ?_
      refine pz_add (by decide +kernel) kz_10 rfl (by omega) (by omega) (fun z11 hz11 => ?_)
      refine mz_ld148 (by decide +kernel) hc hI hz11 (by omega) (by omega) (fun v12 ev12 pv12 => ?_)
      clear pv12
      clear hz11
      refine pe_goto (off := 4) (t := 21) (by decide +kernel) (by decide) rfl ?_
      refine pe_iret (by decide +kernel) rfl rfl ⟨rfl, rfl, ?_⟩
      show pmE pg X pg_tyl pg_cl (d + 2) 201 8 [.ref 147, pm_dead, pm_dead] [.int v12] (md wc f A) _
      refine pe_bipushv (n := 10) (v := 10) (by decide +kernel) (by decide +kernel) ?_
      have lw14 := zi_lo v12
      have uw14 := zi_hi v12
      refine pz_icmp_eq (off := 16) (t := 26) (by decide +kernel) (by decide) rfl rfl kz_10 (fun h13 => ?_) (fun h13 => ?_)
      · skip
        refine pe_aload_n (j := 0) (by decide +kernel) rfl ?_
        refine pe_dup (by decide +kernel) rfl ?_
        refine pe_get (j := 83) (ci := 12) (n := 3) (by decide +kernel) (by decide +kernel) (md_o hc) rfl ?_
        refine pe_iconstv (n := 1) (v := 1) (by decide +kernel) (by decide +kernel) ?_
        refine pz_add (by decide +kernel) rfl kz_1 (by omega) (by omega) (fun z15 hz15 => ?_)
        refine mz_put3 (jj := 83) (by decide +kernel) (by decide +kernel) hc hI (by omega) (by omega) (fun f16 ef16 hIf16 => ?_)
        refine pe_goto (off := (-36)) (t := 0) (by decide +kernel) (by decide) rfl ?_
        have hn_f16 : (f16 3).toInt = ((f 3).toInt + 1) := (congrArg Int32.toInt (show f16 3 = z15 from upf_at ef16)).trans hz15
        exact ih f16 hIf16 (fun k n3 => (upf_fr ef16 n3).trans ((hG k n3))) (by omega)
      · skip
        refine pe_aload_n (j := 0) (by decide +kernel) rfl ?_
        refine pe_aload_n (j := 0) (by decide +kernel) rfl ?_
        refine pe_get (j := 83) (ci := 12) (n := 3) (by decide +kernel) (by decide +kernel) (md_o hc) rfl ?_
        refine pi_V (j := 86) (mj := 202) (by decide +kernel) (cll_V (args := [.int (f 3)]) (n := 1) (by decide +kernel) rfl rfl (md_o hc) (by decide +kernel) (Nat.le_of_ble_eq_true rfl) (Nat.le_of_ble_eq_true rfl)) ?_
        show pmE pg X pg_tyl pg_cl (d + 1) 202 0 [.ref 147, .int (f 3)] [] (md wc f A) _
        refine pe_iload_n (j := 1) (by decide +kernel) rfl ?_
        refine pe_aload_n (j := 0) (by decide +kernel) rfl ?_
        refine pe_get (j := 75) (ci := 12) (n := 2) (by decide +kernel) (by decide +kernel) (md_o hc) rfl ?_
        refine pz_icmp_ge (off := 15) (t := 20) (by decide +kernel) (by decide) rfl rfl rfl (fun h17 => ?_) (fun h17 => ?_)
        · skip
          refine pe_iconstv (n := (-1)) (v := (-1)) (by decide +kernel) (by decide +kernel) ?_
          refine pe_iret (by decide +kernel) rfl rfl ⟨rfl, rfl, ?_⟩
          show pmE pg X pg_tyl pg_cl (d + 2) 201 21 [.ref 147, pm_dead, pm_dead] [.int (-1)] (md wc f A) _
          refine pe_bipushv (n := 32) (v := 32) (by decide +kernel) (by decide +kernel) ?_
          refine pz_icmp_ne (off := 16) (t := 39) (by decide +kernel) (by decide) rfl kz_m1 kz_32 (fun h18 => ?_) (fun h18 => by omega)
          exact k_39_0 f hI (fun k n3 => (hG k n3))
        · skip
          refine pe_aload_n (j := 0) (by decide +kernel) rfl ?_
          refine pe_get (j := 7) (ci := 12) (n := 0) (by decide +kernel) (by decide +kernel) (md_o hc) rfl ?_
          refine pe_bipushv (n := 10) (v := 10) (by decide +kernel) (by decide +kernel) ?_
          refine pe_iload_n (j := 1) (by decide +kernel) rfl ?_
          refine pz_add (by decide +kernel) kz_10 rfl (by omega) (by omega) (fun z19 hz19 => ?_)
          refine mz_ld148 (by decide +kernel) hc hI hz19 (by omega) (by omega) (fun v20 ev20 pv20 => ?_)
          rw [ev20.trans ev12.symm]
          clear pv20 ev20 v20
          clear hz19
          refine pe_goto (off := 4) (t := 21) (by decide +kernel) (by decide) rfl ?_
          refine pe_iret (by decide +kernel) rfl rfl ⟨rfl, rfl, ?_⟩
          show pmE pg X pg_tyl pg_cl (d + 2) 201 21 [.ref 147, pm_dead, pm_dead] [.int v12] (md wc f A) _
          refine pe_bipushv (n := 32) (v := 32) (by decide +kernel) (by decide +kernel) ?_
          refine pz_icmp_ne (off := 16) (t := 39) (by decide +kernel) (by decide) rfl rfl kz_32 (fun h21 => ?_) (fun h21 => ?_)
          · skip
            exact k_39_0 f hI (fun k n3 => (hG k n3))
          · skip
            refine pe_aload_n (j := 0) (by decide +kernel) rfl ?_
            refine pe_dup (by decide +kernel) rfl ?_
            refine pe_get (j := 83) (ci := 12) (n := 3) (by decide +kernel) (by decide +kernel) (md_o hc) rfl ?_
            refine pe_iconstv (n := 1) (v := 1) (by decide +kernel) (by decide +kernel) ?_
            refine pz_add (by decide +kernel) rfl kz_1 (by omega) (by omega) (fun z22 hz22 => ?_)
            refine mz_put3 (jj := 83) (by decide +kernel) (by decide +kernel) hc hI (by omega) (by omega) (fun f23 ef23 hIf23 => ?_)
            refine pe_goto (off := (-36)) (t := 0) (by decide +kernel) (by decide) rfl ?_
            have hn_f23 : (f23 3).toInt = ((f 3).toInt + 1) := (congrArg Int32.toInt (show f23 3 = z22 from upf_at ef23)).trans hz22
            exact ih f23 hIf23 (fun k n3 => (upf_fr ef23 n3).trans ((hG k n3))) (by omega)
set_option maxRecDepth 100000 in
set_option maxHeartbeats 8000000 in
theorem MM_201 {X : pm_X} {d : Nat} {wc : pm_W} {f : Nat → Int32} {A : Nat → List Int32} (hc : wc.length = 147) (hI : MI f A) : pmE pg X pg_tyl pg_cl (d + 2) 201 0 (pm_ent (pm_max pg 201) [.ref 147]) [] (md wc f A) (fun q => ∃ (f' : Nat → Int32), q = (none, md wc f' A, 0, 0) ∧ MI f' A ∧ (∀ k : Nat, k ≠ 3 → k ≠ 4 → k ≠ 5 → k ≠ 6 → k ≠ 7 → f' k = f k) ∧ ((True))) := by
  show pmE pg X pg_tyl pg_cl (d + 2) 201 0 [.ref 147, pm_dead, pm_dead] [] (md wc f A) _
  refine ML_201_0 hc (fun f1 hIy2 hGhIy2 => ?_) 601 f hI (fun k _ => rfl) (by have h := hI.1 3; simp only [MF] at h; omega)
  refine pe_aload_n (j := 0) (by decide +kernel) rfl ?_
  refine pe_aload_n (j := 0) (by decide +kernel) rfl ?_
  refine pe_get (j := 83) (ci := 12) (n := 3) (by decide +kernel) (by decide +kernel) (md_o hc) rfl ?_
  have hr_3_f1 := hIy2.1 3
  simp only [MF] at hr_3_f1
  refine mz_put4 (jj := 90) (by decide +kernel) (by decide +kernel) hc hIy2 (fun f3 ef3 hIf3 => ?_)
  refine pe_aload_n (j := 0) (by decide +kernel) rfl ?_
  refine pe_aload_n (j := 0) (by decide +kernel) rfl ?_
  refine pe_get (j := 83) (ci := 12) (n := 3) (by decide +kernel) (by decide +kernel) (md_o hc) rfl ?_
  refine pe_top (v := (f1 3)) (upf_fr ef3 (by decide)) ?_
  refine pi_V (j := 86) (mj := 202) (by decide +kernel) (cll_V (args := [.int (f1 3)]) (n := 1) (by decide +kernel) rfl rfl (md_o hc) (by decide +kernel) (Nat.le_of_ble_eq_true rfl) (Nat.le_of_ble_eq_true rfl)) ?_
  show pmE pg X pg_tyl pg_cl (d + 1) 202 0 [.ref 147, .int (f1 3)] [] (md wc f3 A) _
  refine pe_iload_n (j := 1) (by decide +kernel) rfl ?_
  refine pe_aload_n (j := 0) (by decide +kernel) rfl ?_
  refine pe_get (j := 75) (ci := 12) (n := 2) (by decide +kernel) (by decide +kernel) (md_o hc) rfl ?_
  have hr_2_f := hI.1 2
  simp only [MF] at hr_2_f
  refine pe_top (v := (f 2)) ((upf_fr ef3 (by decide)).trans ((hGhIy2 2 (by decide)))) ?_
  refine pz_icmp_ge (off := 15) (t := 20) (by decide +kernel) (by decide) rfl rfl rfl (fun h4 => ?_) (fun h4 => ?_)
  · skip
    refine pe_iconstv (n := (-1)) (v := (-1)) (by decide +kernel) (by decide +kernel) ?_
    refine pe_iret (by decide +kernel) rfl rfl ⟨rfl, rfl, ?_⟩
    show pmE pg X pg_tyl pg_cl (d + 2) 201 55 [.ref 147, pm_dead, pm_dead] [.int (-1)] (md wc f3 A) _
    refine pe_istore_n (j := 1) (ls' := [.ref 147, .int (-1), pm_dead]) (by decide +kernel) (Nat.le_of_ble_eq_true rfl) rfl ?_
    refine pe_iload_n (j := 1) (by decide +kernel) rfl ?_
    refine pz_if_ge (off := 11) (t := 68) (by decide +kernel) (by decide) rfl kz_m1 (fun h5 => by omega) (fun h5 => ?_)
    refine pe_aload_n (j := 0) (by decide +kernel) rfl ?_
    refine pe_iconstv (n := 0) (v := 0) (by decide +kernel) (by decide +kernel) ?_
    refine mz_put5 (jj := 93) (by decide +kernel) (by decide +kernel) hc hIf3 (by decide +kernel) (by decide +kernel) (fun f6 ef6 hIf6 => ?_)
    refine pe_goto (off := 243) (t := 308) (by decide +kernel) (by decide) rfl ?_
    exact pe_vret (by decide +kernel) rfl ⟨f6, rfl, hIf6, (fun k n3 n4 n5 n6 n7 => (upf_fr ef6 n5).trans ((upf_fr ef3 n4).trans ((hGhIy2 k n3)))), trivial⟩
  · skip
    refine pe_aload_n (j := 0) (by decide +kernel) rfl ?_
    refine pe_get (j := 7) (ci := 12) (n := 0) (by decide +kernel) (by decide +kernel) (md_o hc) rfl ?_
    refine pe_bipushv (n := 10) (v := 10) (by decide +kernel) (by decide +kernel) ?_
    refine pe_iload_n (j := 1) (by decide +kernel) rfl ?_
    refine pz_add (by decide +kernel) kz_10 rfl (by omega) (by omega) (fun z7 hz7 => ?_)
    refine mz_ld148 (by decide +kernel) hc hIf3 hz7 (by omega) (by omega) (fun v8 ev8 pv8 => ?_)
    clear pv8
    clear hz7
    refine pe_goto (off := 4) (t := 21) (by decide +kernel) (by decide) rfl ?_
    refine pe_iret (by decide +kernel) rfl rfl ⟨rfl, rfl, ?_⟩
    show pmE pg X pg_tyl pg_cl (d + 2) 201 55 [.ref 147, pm_dead, pm_dead] [.int v8] (md wc f3 A) _
    refine pe_istore_n (j := 1) (ls' := [.ref 147, .int v8, pm_dead]) (by decide +kernel) (Nat.le_of_ble_eq_true rfl) rfl ?_
    refine pe_iload_n (j := 1) (by decide +kernel) rfl ?_
    have lw10 := zi_lo v8
    have uw10 := zi_hi v8
    refine pz_if_ge (off := 11) (t := 68) (by decide +kernel) (by decide) rfl rfl (fun h9 => ?_) (fun h9 => ?_)
    · skip
      refine pe_iload_n (j := 1) (by decide +kernel) rfl ?_
      refine pi_S (j := 96) (mj := 203) (by decide +kernel) (by decide +kernel) rfl ?_
      show pmE pg X pg_tyl pg_cl (d + 1) 203 0 [.int v8] [] (md wc f3 A) _
      refine pe_iload_n (j := 0) (by decide +kernel) rfl ?_
      refine pe_bipushv (n := 97) (v := 97) (by decide +kernel) (by decide +kernel) ?_
      refine pz_icmp_lt (off := 13) (t := 16) (by decide +kernel) (by decide) rfl rfl kz_97 (fun h11 => ?_) (fun h11 => ?_)
      · skip
        refine pe_iconstv (n := 0) (v := 0) (by decide +kernel) (by decide +kernel) ?_
        refine pe_iret (by decide +kernel) rfl rfl ⟨rfl, rfl, ?_⟩
        show pmE pg X pg_tyl pg_cl (d + 2) 201 72 [.ref 147, .int v8, pm_dead] [.int 0] (md wc f3 A) _
        refine pz_if_eq (off := 111) (t := 183) (by decide +kernel) (by decide) rfl kz_0 (fun h12 => ?_) (fun h12 => by omega)
        refine pe_iload_n (j := 1) (by decide +kernel) rfl ?_
        refine pi_S (j := 106) (mj := 206) (by decide +kernel) (by decide +kernel) rfl ?_
        show pmE pg X pg_tyl pg_cl (d + 1) 206 0 [.int v8] [] (md wc f3 A) _
        refine pe_iload_n (j := 0) (by decide +kernel) rfl ?_
        refine pe_bipushv (n := 48) (v := 48) (by decide +kernel) (by decide +kernel) ?_
        refine pz_icmp_lt (off := 13) (t := 16) (by decide +kernel) (by decide) rfl rfl kz_48 (fun h13 => ?_) (fun h13 => ?_)
        · skip
          refine pe_iconstv (n := 0) (v := 0) (by decide +kernel) (by decide +kernel) ?_
          refine pe_iret (by decide +kernel) rfl rfl ⟨rfl, rfl, ?_⟩
          show pmE pg X pg_tyl pg_cl (d + 2) 201 187 [.ref 147, .int v8, pm_dead] [.int 0] (md wc f3 A) _
          refine pz_if_eq (off := 96) (t := 283) (by decide +kernel) (by decide) rfl kz_0 (fun h14 => ?_) (fun h14 => by omega)
          refine pe_aload_n (j := 0) (by decide +kernel) rfl ?_
          refine pe_dup (by decide +kernel) rfl ?_
          refine pe_get (j := 83) (ci := 12) (n := 3) (by decide +kernel) (by decide +kernel) (md_o hc) rfl ?_
          refine pe_top (v := (f1 3)) (upf_fr ef3 (by decide)) ?_
          refine pe_iconstv (n := 1) (v := 1) (by decide +kernel) (by decide +kernel) ?_
          refine pz_add (by decide +kernel) rfl kz_1 (by omega) (by omega) (fun z15 hz15 => ?_)
          refine mz_put3 (jj := 83) (by decide +kernel) (by decide +kernel) hc hIf3 (by omega) (by omega) (fun f16 ef16 hIf16 => ?_)
          refine pe_aload_n (j := 0) (by decide +kernel) rfl ?_
          refine pe_iload_n (j := 1) (by decide +kernel) rfl ?_
          refine pe_bipushv (n := 59) (v := 59) (by decide +kernel) (by decide +kernel) ?_
          refine pz_icmp_ne (off := 7) (t := 304) (by decide +kernel) (by decide) rfl rfl kz_59 (fun h17 => ?_) (fun h17 => by omega)
          refine pe_iconstv (n := 4) (v := 4) (by decide +kernel) (by decide +kernel) ?_
          refine mz_put5 (jj := 93) (by decide +kernel) (by decide +kernel) hc hIf16 (by decide +kernel) (by decide +kernel) (fun f18 ef18 hIf18 => ?_)
          exact pe_vret (by decide +kernel) rfl ⟨f18, rfl, hIf18, (fun k n3 n4 n5 n6 n7 => (upf_fr ef18 n5).trans ((upf_fr ef16 n3).trans ((upf_fr ef3 n4).trans ((hGhIy2 k n3))))), trivial⟩
        · skip
          refine pe_iload_n (j := 0) (by decide +kernel) rfl ?_
          refine pe_bipushv (n := 57) (v := 57) (by decide +kernel) (by decide +kernel) ?_
          refine pz_icmp_gt (off := 7) (t := 16) (by decide +kernel) (by decide) rfl rfl kz_57 (fun h19 => ?_) (fun h19 => ?_)
          · skip
            refine pe_iconstv (n := 0) (v := 0) (by decide +kernel) (by decide +kernel) ?_
            refine pe_iret (by decide +kernel) rfl rfl ⟨rfl, rfl, ?_⟩
            show pmE pg X pg_tyl pg_cl (d + 2) 201 187 [.ref 147, .int v8, pm_dead] [.int 0] (md wc f3 A) _
            refine pz_if_eq (off := 96) (t := 283) (by decide +kernel) (by decide) rfl kz_0 (fun h20 => ?_) (fun h20 => by omega)
            refine pe_aload_n (j := 0) (by decide +kernel) rfl ?_
            refine pe_dup (by decide +kernel) rfl ?_
            refine pe_get (j := 83) (ci := 12) (n := 3) (by decide +kernel) (by decide +kernel) (md_o hc) rfl ?_
            refine pe_top (v := (f1 3)) (upf_fr ef3 (by decide)) ?_
            refine pe_iconstv (n := 1) (v := 1) (by decide +kernel) (by decide +kernel) ?_
            refine pz_add (by decide +kernel) rfl kz_1 (by omega) (by omega) (fun z21 hz21 => ?_)
            refine mz_put3 (jj := 83) (by decide +kernel) (by decide +kernel) hc hIf3 (by omega) (by omega) (fun f22 ef22 hIf22 => ?_)
            refine pe_aload_n (j := 0) (by decide +kernel) rfl ?_
            refine pe_iload_n (j := 1) (by decide +kernel) rfl ?_
            refine pe_bipushv (n := 59) (v := 59) (by decide +kernel) (by decide +kernel) ?_
            refine pz_icmp_ne (off := 7) (t := 304) (by decide +kernel) (by decide) rfl rfl kz_59 (fun h23 => ?_) (fun h23 => ?_)
            · skip
              refine pe_iconstv (n := 4) (v := 4) (by decide +kernel) (by decide +kernel) ?_
              refine mz_put5 (jj := 93) (by decide +kernel) (by decide +kernel) hc hIf22 (by decide +kernel) (by decide +kernel) (fun f24 ef24 hIf24 => ?_)
              exact pe_vret (by decide +kernel) rfl ⟨f24, rfl, hIf24, (fun k n3 n4 n5 n6 n7 => (upf_fr ef24 n5).trans ((upf_fr ef22 n3).trans ((upf_fr ef3 n4).trans ((hGhIy2 k n3))))), trivial⟩
            · skip
              refine pe_iconstv (n := 2) (v := 2) (by decide +kernel) (by decide +kernel) ?_
              refine pe_goto (off := 4) (t := 305) (by decide +kernel) (by decide) rfl ?_
              refine mz_put5 (jj := 93) (by decide +kernel) (by decide +kernel) hc hIf22 (by decide +kernel) (by decide +kernel) (fun f25 ef25 hIf25 => ?_)
              exact pe_vret (by decide +kernel) rfl ⟨f25, rfl, hIf25, (fun k n3 n4 n5 n6 n7 => (upf_fr ef25 n5).trans ((upf_fr ef22 n3).trans ((upf_fr ef3 n4).trans ((hGhIy2 k n3))))), trivial⟩
          · skip
            refine pe_iconstv (n := 1) (v := 1) (by decide +kernel) (by decide +kernel) ?_
            refine pe_goto (off := 4) (t := 17) (by decide +kernel) (by decide) rfl ?_
            refine pe_iret (by decide +kernel) rfl rfl ⟨rfl, rfl, ?_⟩
            show pmE pg X pg_tyl pg_cl (d + 2) 201 187 [.ref 147, .int v8, pm_dead] [.int 1] (md wc f3 A) _
            refine pz_if_eq (off := 96) (t := 283) (by decide +kernel) (by decide) rfl kz_1 (fun h26 => by omega) (fun h26 => ?_)
            refine pe_aload_n (j := 0) (by decide +kernel) rfl ?_
            refine pe_iconstv (n := 0) (v := 0) (by decide +kernel) (by decide +kernel) ?_
            refine mz_put6 (jj := 109) (by decide +kernel) (by decide +kernel) hc hIf3 (fun f27 ef27 hIf27 => ?_)
            refine ML_201_195 hc (by omega) (fun f28 hIy29 hGhIy29 => ?_) 601 f27 hIf27 (fun k _ _ => rfl) (by have h := hIf27.1 3; simp only [MF] at h; omega)
            refine pe_aload_n (j := 0) (by decide +kernel) rfl ?_
            refine pe_aload_n (j := 0) (by decide +kernel) rfl ?_
            refine pe_get (j := 83) (ci := 12) (n := 3) (by decide +kernel) (by decide +kernel) (md_o hc) rfl ?_
            have hr_3_f28 := hIy29.1 3
            simp only [MF] at hr_3_f28
            refine pe_aload_n (j := 0) (by decide +kernel) rfl ?_
            refine pe_get (j := 90) (ci := 12) (n := 4) (by decide +kernel) (by decide +kernel) (md_o hc) rfl ?_
            refine pe_top (v := (f1 3)) (((hGhIy29 4 (by decide) (by decide))).trans ((upf_fr ef27 (by decide)).trans (upf_at ef3))) ?_
            refine pz_sub (by decide +kernel) rfl rfl (by omega) (by omega) (fun z30 hz30 => ?_)
            refine pe_iconstv (n := 2) (v := 2) (by decide +kernel) (by decide +kernel) ?_
            refine pz_icmp_le (off := 7) (t := 276) (by decide +kernel) (by decide) rfl hz30 kz_2 (fun h31 => ?_) (fun h31 => ?_)
            · skip
              clear hz30
              refine pe_iconstv (n := 1) (v := 1) (by decide +kernel) (by decide +kernel) ?_
              refine mz_put5 (jj := 93) (by decide +kernel) (by decide +kernel) hc hIy29 (by decide +kernel) (by decide +kernel) (fun f32 ef32 hIf32 => ?_)
              refine pe_goto (off := 28) (t := 308) (by decide +kernel) (by decide) rfl ?_
              exact pe_vret (by decide +kernel) rfl ⟨f32, rfl, hIf32, (fun k n3 n4 n5 n6 n7 => (upf_fr ef32 n5).trans (((hGhIy29 k n3 n6)).trans ((upf_fr ef27 n6).trans ((upf_fr ef3 n4).trans ((hGhIy2 k n3)))))), trivial⟩
            · skip
              clear hz30
              refine pe_iconstv (n := 4) (v := 4) (by decide +kernel) (by decide +kernel) ?_
              refine pe_goto (off := 4) (t := 277) (by decide +kernel) (by decide) rfl ?_
              refine mz_put5 (jj := 93) (by decide +kernel) (by decide +kernel) hc hIy29 (by decide +kernel) (by decide +kernel) (fun f33 ef33 hIf33 => ?_)
              refine pe_goto (off := 28) (t := 308) (by decide +kernel) (by decide) rfl ?_
              exact pe_vret (by decide +kernel) rfl ⟨f33, rfl, hIf33, (fun k n3 n4 n5 n6 n7 => (upf_fr ef33 n5).trans (((hGhIy29 k n3 n6)).trans ((upf_fr ef27 n6).trans ((upf_fr ef3 n4).trans ((hGhIy2 k n3)))))), trivial⟩
      · skip
        refine pe_iload_n (j := 0) (by decide +kernel) rfl ?_
        refine pe_bipushv (n := 122) (v := 122) (by decide +kernel) (by decide +kernel) ?_
        refine pz_icmp_gt (off := 7) (t := 16) (by decide +kernel) (by decide) rfl rfl kz_122 (fun h34 => ?_) (fun h34 => ?_)
        · skip
          refine pe_iconstv (n := 0) (v := 0) (by decide +kernel) (by decide +kernel) ?_
          refine pe_iret (by decide +kernel) rfl rfl ⟨rfl, rfl, ?_⟩
          show pmE pg X pg_tyl pg_cl (d + 2) 201 72 [.ref 147, .int v8, pm_dead] [.int 0] (md wc f3 A) _
          refine pz_if_eq (off := 111) (t := 183) (by decide +kernel) (by decide) rfl kz_0 (fun h35 => ?_) (fun h35 => by omega)
          refine pe_iload_n (j := 1) (by decide +kernel) rfl ?_
          refine pi_S (j := 106) (mj := 206) (by decide +kernel) (by decide +kernel) rfl ?_
          show pmE pg X pg_tyl pg_cl (d + 1) 206 0 [.int v8] [] (md wc f3 A) _
          refine pe_iload_n (j := 0) (by decide +kernel) rfl ?_
          refine pe_bipushv (n := 48) (v := 48) (by decide +kernel) (by decide +kernel) ?_
          refine pz_icmp_lt (off := 13) (t := 16) (by decide +kernel) (by decide) rfl rfl kz_48 (fun h36 => by omega) (fun h36 => ?_)
          refine pe_iload_n (j := 0) (by decide +kernel) rfl ?_
          refine pe_bipushv (n := 57) (v := 57) (by decide +kernel) (by decide +kernel) ?_
          refine pz_icmp_gt (off := 7) (t := 16) (by decide +kernel) (by decide) rfl rfl kz_57 (fun h37 => ?_) (fun h37 => by omega)
          refine pe_iconstv (n := 0) (v := 0) (by decide +kernel) (by decide +kernel) ?_
          refine pe_iret (by decide +kernel) rfl rfl ⟨rfl, rfl, ?_⟩
          show pmE pg X pg_tyl pg_cl (d + 2) 201 187 [.ref 147, .int v8, pm_dead] [.int 0] (md wc f3 A) _
          refine pz_if_eq (off := 96) (t := 283) (by decide +kernel) (by decide) rfl kz_0 (fun h38 => ?_) (fun h38 => by omega)
          refine pe_aload_n (j := 0) (by decide +kernel) rfl ?_
          refine pe_dup (by decide +kernel) rfl ?_
          refine pe_get (j := 83) (ci := 12) (n := 3) (by decide +kernel) (by decide +kernel) (md_o hc) rfl ?_
          refine pe_top (v := (f1 3)) (upf_fr ef3 (by decide)) ?_
          refine pe_iconstv (n := 1) (v := 1) (by decide +kernel) (by decide +kernel) ?_
          refine pz_add (by decide +kernel) rfl kz_1 (by omega) (by omega) (fun z39 hz39 => ?_)
          refine mz_put3 (jj := 83) (by decide +kernel) (by decide +kernel) hc hIf3 (by omega) (by omega) (fun f40 ef40 hIf40 => ?_)
          refine pe_aload_n (j := 0) (by decide +kernel) rfl ?_
          refine pe_iload_n (j := 1) (by decide +kernel) rfl ?_
          refine pe_bipushv (n := 59) (v := 59) (by decide +kernel) (by decide +kernel) ?_
          refine pz_icmp_ne (off := 7) (t := 304) (by decide +kernel) (by decide) rfl rfl kz_59 (fun h41 => ?_) (fun h41 => by omega)
          refine pe_iconstv (n := 4) (v := 4) (by decide +kernel) (by decide +kernel) ?_
          refine mz_put5 (jj := 93) (by decide +kernel) (by decide +kernel) hc hIf40 (by decide +kernel) (by decide +kernel) (fun f42 ef42 hIf42 => ?_)
          exact pe_vret (by decide +kernel) rfl ⟨f42, rfl, hIf42, (fun k n3 n4 n5 n6 n7 => (upf_fr ef42 n5).trans ((upf_fr ef40 n3).trans ((upf_fr ef3 n4).trans ((hGhIy2 k n3))))), trivial⟩
        · skip
          refine pe_iconstv (n := 1) (v := 1) (by decide +kernel) (by decide +kernel) ?_
          refine pe_goto (off := 4) (t := 17) (by decide +kernel) (by decide) rfl ?_
          refine pe_iret (by decide +kernel) rfl rfl ⟨rfl, rfl, ?_⟩
          show pmE pg X pg_tyl pg_cl (d + 2) 201 72 [.ref 147, .int v8, pm_dead] [.int 1] (md wc f3 A) _
          refine pz_if_eq (off := 111) (t := 183) (by decide +kernel) (by decide) rfl kz_1 (fun h43 => by omega) (fun h43 => ?_)
          refine pe_iconstv (n := 0) (v := 0) (by decide +kernel) (by decide +kernel) ?_
          refine pe_istore_n (j := 2) (ls' := [.ref 147, .int v8, .int 0]) (by decide +kernel) (Nat.le_of_ble_eq_true rfl) rfl ?_
          refine ML_201_77 hc (by omega) (fun f44 y46 hIy45 hGhIy45 => ?_) 601 f3 0 hIf3 (fun k _ => rfl) (by have h := hIf3.1 3; simp only [MF] at h; omega)
          refine pe_aload_n (j := 0) (by decide +kernel) rfl ?_
          refine pe_aload_n (j := 0) (by decide +kernel) rfl ?_
          refine pe_get (j := 83) (ci := 12) (n := 3) (by decide +kernel) (by decide +kernel) (md_o hc) rfl ?_
          have hr_3_f44 := hIy45.1 3
          simp only [MF] at hr_3_f44
          refine pe_aload_n (j := 0) (by decide +kernel) rfl ?_
          refine pe_get (j := 90) (ci := 12) (n := 4) (by decide +kernel) (by decide +kernel) (md_o hc) rfl ?_
          refine pe_top (v := (f1 3)) (((hGhIy45 4 (by decide))).trans (upf_at ef3)) ?_
          refine pz_sub (by decide +kernel) rfl rfl (by omega) (by omega) (fun z47 hz47 => ?_)
          refine pe_bipushv (n := 6) (v := 6) (by decide +kernel) (by decide +kernel) ?_
          refine pz_icmp_le (off := 8) (t := 155) (by decide +kernel) (by decide) rfl hz47 kz_6 (fun h48 => ?_) (fun h48 => ?_)
          · skip
            clear hz47
            refine pe_iload_n (j := 2) (by decide +kernel) rfl ?_
            refine pi_S (j := 100) (mj := 204) (by decide +kernel) (by decide +kernel) rfl ?_
            show pmE pg X pg_tyl pg_cl (d + 1) 204 0 [.int y46] [] (md wc f44 A) _
            refine pe_iload_n (j := 0) (by decide +kernel) rfl ?_
            refine pe_bipushv (n := 16) (v := 16) (by decide +kernel) (by decide +kernel) ?_
            refine pe_iconstv (n := 5) (v := 5) (by decide +kernel) (by decide +kernel) ?_
            refine pe_bipushv (n := 15) (v := 15) (by decide +kernel) (by decide +kernel) ?_
            refine pi_S (j := 78) (mj := 205) (by decide +kernel) (by decide +kernel) rfl ?_
            show pmE pg X pg_tyl pg_cl (d) 205 0 [.int 16, .int 5, .int 15] [] (md wc f44 A) _
            refine pe_iload_n (j := 0) (by decide +kernel) rfl ?_
            refine pe_bipushv (n := 32) (v := 32) (by decide +kernel) (by decide +kernel) ?_
            refine pe_imul (by decide +kernel) ?_
            refine pe_top (v := 512) (by decide +kernel) ?_
            refine pe_iload_n (j := 1) (by decide +kernel) rfl ?_
            refine pe_iadd (by decide +kernel) ?_
            refine pe_top (v := 517) (by decide +kernel) ?_
            refine pe_bipushv (n := 32) (v := 32) (by decide +kernel) (by decide +kernel) ?_
            refine pe_imul (by decide +kernel) ?_
            refine pe_top (v := 16544) (by decide +kernel) ?_
            refine pe_iload_n (j := 2) (by decide +kernel) rfl ?_
            refine pe_iadd (by decide +kernel) ?_
            refine pe_top (v := 16559) (by decide +kernel) ?_
            refine pe_iret (by decide +kernel) rfl rfl ⟨rfl, rfl, ?_⟩
            show pmE pg X pg_tyl pg_cl (d + 1) 204 9 [.int y46] [.int 16559, .int y46] (md wc f44 A) _
            refine pe_ldc (j := 82) (v := 32768) (by decide +kernel) (by decide +kernel) ?_
            refine pe_imul (by decide +kernel) ?_
            refine pe_top (v := 542605312) (by decide +kernel) ?_
            refine pe_bipushv (n := 16) (v := 16) (by decide +kernel) (by decide +kernel) ?_
            refine pe_bipushv (n := 12) (v := 12) (by decide +kernel) (by decide +kernel) ?_
            refine pe_iconstv (n := 5) (v := 5) (by decide +kernel) (by decide +kernel) ?_
            refine pi_S (j := 78) (mj := 205) (by decide +kernel) (by decide +kernel) rfl ?_
            show pmE pg X pg_tyl pg_cl (d) 205 0 [.int 16, .int 12, .int 5] [] (md wc f44 A) _
            refine pe_iload_n (j := 0) (by decide +kernel) rfl ?_
            refine pe_bipushv (n := 32) (v := 32) (by decide +kernel) (by decide +kernel) ?_
            refine pe_imul (by decide +kernel) ?_
            refine pe_top (v := 512) (by decide +kernel) ?_
            refine pe_iload_n (j := 1) (by decide +kernel) rfl ?_
            refine pe_iadd (by decide +kernel) ?_
            refine pe_top (v := 524) (by decide +kernel) ?_
            refine pe_bipushv (n := 32) (v := 32) (by decide +kernel) (by decide +kernel) ?_
            refine pe_imul (by decide +kernel) ?_
            refine pe_top (v := 16768) (by decide +kernel) ?_
            refine pe_iload_n (j := 2) (by decide +kernel) rfl ?_
            refine pe_iadd (by decide +kernel) ?_
            refine pe_top (v := 16773) (by decide +kernel) ?_
            refine pe_iret (by decide +kernel) rfl rfl ⟨rfl, rfl, ?_⟩
            show pmE pg X pg_tyl pg_cl (d + 1) 204 20 [.int y46] [.int 16773, .int 542605312, .int y46] (md wc f44 A) _
            refine pe_iadd (by decide +kernel) ?_
            refine pe_top (v := 542622085) (by decide +kernel) ?_
            have lw60 := zi_lo y46
            have uw60 := zi_hi y46
            refine pz_icmp_ne (off := 5) (t := 26) (by decide +kernel) (by decide) rfl rfl kz_542622085 (fun h59 => ?_) (fun h59 => ?_)
            · skip
              refine pe_iload_n (j := 0) (by decide +kernel) rfl ?_
              refine pe_bipushv (n := 23) (v := 23) (by decide +kernel) (by decide +kernel) ?_
              refine pe_bipushv (n := 15) (v := 15) (by decide +kernel) (by decide +kernel) ?_
              refine pe_bipushv (n := 18) (v := 18) (by decide +kernel) (by decide +kernel) ?_
              refine pi_S (j := 78) (mj := 205) (by decide +kernel) (by decide +kernel) rfl ?_
              show pmE pg X pg_tyl pg_cl (d) 205 0 [.int 23, .int 15, .int 18] [] (md wc f44 A) _
              refine pe_iload_n (j := 0) (by decide +kernel) rfl ?_
              refine pe_bipushv (n := 32) (v := 32) (by decide +kernel) (by decide +kernel) ?_
              refine pe_imul (by decide +kernel) ?_
              refine pe_top (v := 736) (by decide +kernel) ?_
              refine pe_iload_n (j := 1) (by decide +kernel) rfl ?_
              refine pe_iadd (by decide +kernel) ?_
              refine pe_top (v := 751) (by decide +kernel) ?_
              refine pe_bipushv (n := 32) (v := 32) (by decide +kernel) (by decide +kernel) ?_
              refine pe_imul (by decide +kernel) ?_
              refine pe_top (v := 24032) (by decide +kernel) ?_
              refine pe_iload_n (j := 2) (by decide +kernel) rfl ?_
              refine pe_iadd (by decide +kernel) ?_
              refine pe_top (v := 24050) (by decide +kernel) ?_
              refine pe_iret (by decide +kernel) rfl rfl ⟨rfl, rfl, ?_⟩
              show pmE pg X pg_tyl pg_cl (d + 1) 204 36 [.int y46] [.int 24050, .int y46] (md wc f44 A) _
              refine pe_bipushv (n := 32) (v := 32) (by decide +kernel) (by decide +kernel) ?_
              refine pe_imul (by decide +kernel) ?_
              refine pe_top (v := 769600) (by decide +kernel) ?_
              refine pe_iconstv (n := 4) (v := 4) (by decide +kernel) (by decide +kernel) ?_
              refine pe_iadd (by decide +kernel) ?_
              refine pe_top (v := 769604) (by decide +kernel) ?_
              refine pz_icmp_ne (off := 5) (t := 46) (by decide +kernel) (by decide) rfl rfl kz_769604 (fun h67 => ?_) (fun h67 => ?_)
              · skip
                refine pe_iload_n (j := 0) (by decide +kernel) rfl ?_
                refine pe_iconstv (n := 1) (v := 1) (by decide +kernel) (by decide +kernel) ?_
                refine pe_bipushv (n := 12) (v := 12) (by decide +kernel) (by decide +kernel) ?_
                refine pe_bipushv (n := 12) (v := 12) (by decide +kernel) (by decide +kernel) ?_
                refine pi_S (j := 78) (mj := 205) (by decide +kernel) (by decide +kernel) rfl ?_
                show pmE pg X pg_tyl pg_cl (d) 205 0 [.int 1, .int 12, .int 12] [] (md wc f44 A) _
                refine pe_iload_n (j := 0) (by decide +kernel) rfl ?_
                refine pe_bipushv (n := 32) (v := 32) (by decide +kernel) (by decide +kernel) ?_
                refine pe_imul (by decide +kernel) ?_
                refine pe_top (v := 32) (by decide +kernel) ?_
                refine pe_iload_n (j := 1) (by decide +kernel) rfl ?_
                refine pe_iadd (by decide +kernel) ?_
                refine pe_top (v := 44) (by decide +kernel) ?_
                refine pe_bipushv (n := 32) (v := 32) (by decide +kernel) (by decide +kernel) ?_
                refine pe_imul (by decide +kernel) ?_
                refine pe_top (v := 1408) (by decide +kernel) ?_
                refine pe_iload_n (j := 2) (by decide +kernel) rfl ?_
                refine pe_iadd (by decide +kernel) ?_
                refine pe_top (v := 1420) (by decide +kernel) ?_
                refine pe_iret (by decide +kernel) rfl rfl ⟨rfl, rfl, ?_⟩
                show pmE pg X pg_tyl pg_cl (d + 1) 204 55 [.int y46] [.int 1420, .int y46] (md wc f44 A) _
                refine pz_icmp_ne (off := 5) (t := 60) (by decide +kernel) (by decide) rfl rfl kz_1420 (fun h72 => ?_) (fun h72 => ?_)
                · skip
                  refine pe_iload_n (j := 0) (by decide +kernel) rfl ?_
                  refine pe_bipushv (n := 6) (v := 6) (by decide +kernel) (by decide +kernel) ?_
                  refine pe_iconstv (n := 5) (v := 5) (by decide +kernel) (by decide +kernel) ?_
                  refine pe_iconstv (n := 5) (v := 5) (by decide +kernel) (by decide +kernel) ?_
                  refine pi_S (j := 78) (mj := 205) (by decide +kernel) (by decide +kernel) rfl ?_
                  show pmE pg X pg_tyl pg_cl (d) 205 0 [.int 6, .int 5, .int 5] [] (md wc f44 A) _
                  refine pe_iload_n (j := 0) (by decide +kernel) rfl ?_
                  refine pe_bipushv (n := 32) (v := 32) (by decide +kernel) (by decide +kernel) ?_
                  refine pe_imul (by decide +kernel) ?_
                  refine pe_top (v := 192) (by decide +kernel) ?_
                  refine pe_iload_n (j := 1) (by decide +kernel) rfl ?_
                  refine pe_iadd (by decide +kernel) ?_
                  refine pe_top (v := 197) (by decide +kernel) ?_
                  refine pe_bipushv (n := 32) (v := 32) (by decide +kernel) (by decide +kernel) ?_
                  refine pe_imul (by decide +kernel) ?_
                  refine pe_top (v := 6304) (by decide +kernel) ?_
                  refine pe_iload_n (j := 2) (by decide +kernel) rfl ?_
                  refine pe_iadd (by decide +kernel) ?_
                  refine pe_top (v := 6309) (by decide +kernel) ?_
                  refine pe_iret (by decide +kernel) rfl rfl ⟨rfl, rfl, ?_⟩
                  show pmE pg X pg_tyl pg_cl (d + 1) 204 68 [.int y46] [.int 6309, .int y46] (md wc f44 A) _
                  refine pz_icmp_ne (off := 5) (t := 73) (by decide +kernel) (by decide) rfl rfl kz_6309 (fun h77 => ?_) (fun h77 => ?_)
                  · skip
                    refine pe_iload_n (j := 0) (by decide +kernel) rfl ?_
                    refine pe_bipushv (n := 18) (v := 18) (by decide +kernel) (by decide +kernel) ?_
                    refine pe_bipushv (n := 9) (v := 9) (by decide +kernel) (by decide +kernel) ?_
                    refine pe_bipushv (n := 19) (v := 19) (by decide +kernel) (by decide +kernel) ?_
                    refine pi_S (j := 78) (mj := 205) (by decide +kernel) (by decide +kernel) rfl ?_
                    show pmE pg X pg_tyl pg_cl (d) 205 0 [.int 18, .int 9, .int 19] [] (md wc f44 A) _
                    refine pe_iload_n (j := 0) (by decide +kernel) rfl ?_
                    refine pe_bipushv (n := 32) (v := 32) (by decide +kernel) (by decide +kernel) ?_
                    refine pe_imul (by decide +kernel) ?_
                    refine pe_top (v := 576) (by decide +kernel) ?_
                    refine pe_iload_n (j := 1) (by decide +kernel) rfl ?_
                    refine pe_iadd (by decide +kernel) ?_
                    refine pe_top (v := 585) (by decide +kernel) ?_
                    refine pe_bipushv (n := 32) (v := 32) (by decide +kernel) (by decide +kernel) ?_
                    refine pe_imul (by decide +kernel) ?_
                    refine pe_top (v := 18720) (by decide +kernel) ?_
                    refine pe_iload_n (j := 2) (by decide +kernel) rfl ?_
                    refine pe_iadd (by decide +kernel) ?_
                    refine pe_top (v := 18739) (by decide +kernel) ?_
                    refine pe_iret (by decide +kernel) rfl rfl ⟨rfl, rfl, ?_⟩
                    show pmE pg X pg_tyl pg_cl (d + 1) 204 83 [.int y46] [.int 18739, .int y46] (md wc f44 A) _
                    refine pe_bipushv (n := 32) (v := 32) (by decide +kernel) (by decide +kernel) ?_
                    refine pe_imul (by decide +kernel) ?_
                    refine pe_top (v := 599648) (by decide +kernel) ?_
                    refine pe_bipushv (n := 11) (v := 11) (by decide +kernel) (by decide +kernel) ?_
                    refine pe_iadd (by decide +kernel) ?_
                    refine pe_top (v := 599659) (by decide +kernel) ?_
                    refine pz_icmp_ne (off := 5) (t := 94) (by decide +kernel) (by decide) rfl rfl kz_599659 (fun h84 => ?_) (fun h84 => ?_)
                    · skip
                      refine pe_iload_n (j := 0) (by decide +kernel) rfl ?_
                      refine pe_bipushv (n := 19) (v := 19) (by decide +kernel) (by decide +kernel) ?_
                      refine pe_bipushv (n := 12) (v := 12) (by decide +kernel) (by decide +kernel) ?_
                      refine pe_iconstv (n := 1) (v := 1) (by decide +kernel) (by decide +kernel) ?_
                      refine pi_S (j := 78) (mj := 205) (by decide +kernel) (by decide +kernel) rfl ?_
                      show pmE pg X pg_tyl pg_cl (d) 205 0 [.int 19, .int 12, .int 1] [] (md wc f44 A) _
                      refine pe_iload_n (j := 0) (by decide +kernel) rfl ?_
                      refine pe_bipushv (n := 32) (v := 32) (by decide +kernel) (by decide +kernel) ?_
                      refine pe_imul (by decide +kernel) ?_
                      refine pe_top (v := 608) (by decide +kernel) ?_
                      refine pe_iload_n (j := 1) (by decide +kernel) rfl ?_
                      refine pe_iadd (by decide +kernel) ?_
                      refine pe_top (v := 620) (by decide +kernel) ?_
                      refine pe_bipushv (n := 32) (v := 32) (by decide +kernel) (by decide +kernel) ?_
                      refine pe_imul (by decide +kernel) ?_
                      refine pe_top (v := 19840) (by decide +kernel) ?_
                      refine pe_iload_n (j := 2) (by decide +kernel) rfl ?_
                      refine pe_iadd (by decide +kernel) ?_
                      refine pe_top (v := 19841) (by decide +kernel) ?_
                      refine pe_iret (by decide +kernel) rfl rfl ⟨rfl, rfl, ?_⟩
                      show pmE pg X pg_tyl pg_cl (d + 1) 204 103 [.int y46] [.int 19841, .int y46] (md wc f44 A) _
                      refine pe_sipushv (n := 1024) (v := 1024) (by decide +kernel) (by decide +kernel) ?_
                      refine pe_imul (by decide +kernel) ?_
                      refine pe_top (v := 20317184) (by decide +kernel) ?_
                      refine pe_bipushv (n := 96) (v := 96) (by decide +kernel) (by decide +kernel) ?_
                      refine pe_iadd (by decide +kernel) ?_
                      refine pe_top (v := 20317280) (by decide +kernel) ?_
                      refine pe_bipushv (n := 11) (v := 11) (by decide +kernel) (by decide +kernel) ?_
                      refine pe_iadd (by decide +kernel) ?_
                      refine pe_top (v := 20317291) (by decide +kernel) ?_
                      refine pz_icmp_ne (off := 6) (t := 119) (by decide +kernel) (by decide) rfl rfl kz_20317291 (fun h92 => ?_) (fun h92 => ?_)
                      · skip
                        refine pe_iload_n (j := 0) (by decide +kernel) rfl ?_
                        refine pe_bipushv (n := 23) (v := 23) (by decide +kernel) (by decide +kernel) ?_
                        refine pe_iconstv (n := 1) (v := 1) (by decide +kernel) (by decide +kernel) ?_
                        refine pe_bipushv (n := 14) (v := 14) (by decide +kernel) (by decide +kernel) ?_
                        refine pi_S (j := 78) (mj := 205) (by decide +kernel) (by decide +kernel) rfl ?_
                        show pmE pg X pg_tyl pg_cl (d) 205 0 [.int 23, .int 1, .int 14] [] (md wc f44 A) _
                        refine pe_iload_n (j := 0) (by decide +kernel) rfl ?_
                        refine pe_bipushv (n := 32) (v := 32) (by decide +kernel) (by decide +kernel) ?_
                        refine pe_imul (by decide +kernel) ?_
                        refine pe_top (v := 736) (by decide +kernel) ?_
                        refine pe_iload_n (j := 1) (by decide +kernel) rfl ?_
                        refine pe_iadd (by decide +kernel) ?_
                        refine pe_top (v := 737) (by decide +kernel) ?_
                        refine pe_bipushv (n := 32) (v := 32) (by decide +kernel) (by decide +kernel) ?_
                        refine pe_imul (by decide +kernel) ?_
                        refine pe_top (v := 23584) (by decide +kernel) ?_
                        refine pe_iload_n (j := 2) (by decide +kernel) rfl ?_
                        refine pe_iadd (by decide +kernel) ?_
                        refine pe_top (v := 23598) (by decide +kernel) ?_
                        refine pe_iret (by decide +kernel) rfl rfl ⟨rfl, rfl, ?_⟩
                        show pmE pg X pg_tyl pg_cl (d + 1) 204 128 [.int y46] [.int 23598, .int y46] (md wc f44 A) _
                        refine pe_bipushv (n := 32) (v := 32) (by decide +kernel) (by decide +kernel) ?_
                        refine pe_imul (by decide +kernel) ?_
                        refine pe_top (v := 755136) (by decide +kernel) ?_
                        refine pe_bipushv (n := 20) (v := 20) (by decide +kernel) (by decide +kernel) ?_
                        refine pe_iadd (by decide +kernel) ?_
                        refine pe_top (v := 755156) (by decide +kernel) ?_
                        refine pz_icmp_ne (off := 6) (t := 140) (by decide +kernel) (by decide) rfl rfl kz_755156 (fun h99 => ?_) (fun h99 => ?_)
                        · skip
                          refine pe_iload_n (j := 0) (by decide +kernel) rfl ?_
                          refine pe_bipushv (n := 15) (v := 15) (by decide +kernel) (by decide +kernel) ?_
                          refine pe_bipushv (n := 23) (v := 23) (by decide +kernel) (by decide +kernel) ?_
                          refine pe_iconstv (n := 5) (v := 5) (by decide +kernel) (by decide +kernel) ?_
                          refine pi_S (j := 78) (mj := 205) (by decide +kernel) (by decide +kernel) rfl ?_
                          show pmE pg X pg_tyl pg_cl (d) 205 0 [.int 15, .int 23, .int 5] [] (md wc f44 A) _
                          refine pe_iload_n (j := 0) (by decide +kernel) rfl ?_
                          refine pe_bipushv (n := 32) (v := 32) (by decide +kernel) (by decide +kernel) ?_
                          refine pe_imul (by decide +kernel) ?_
                          refine pe_top (v := 480) (by decide +kernel) ?_
                          refine pe_iload_n (j := 1) (by decide +kernel) rfl ?_
                          refine pe_iadd (by decide +kernel) ?_
                          refine pe_top (v := 503) (by decide +kernel) ?_
                          refine pe_bipushv (n := 32) (v := 32) (by decide +kernel) (by decide +kernel) ?_
                          refine pe_imul (by decide +kernel) ?_
                          refine pe_top (v := 16096) (by decide +kernel) ?_
                          refine pe_iload_n (j := 2) (by decide +kernel) rfl ?_
                          refine pe_iadd (by decide +kernel) ?_
                          refine pe_top (v := 16101) (by decide +kernel) ?_
                          refine pe_iret (by decide +kernel) rfl rfl ⟨rfl, rfl, ?_⟩
                          show pmE pg X pg_tyl pg_cl (d + 1) 204 149 [.int y46] [.int 16101, .int y46] (md wc f44 A) _
                          refine pz_icmp_ne (off := 6) (t := 155) (by decide +kernel) (by decide) rfl rfl kz_16101 (fun h104 => ?_) (fun h104 => ?_)
                          · skip
                            refine pe_iload_n (j := 0) (by decide +kernel) rfl ?_
                            refine pe_bipushv (n := 16) (v := 16) (by decide +kernel) (by decide +kernel) ?_
                            refine pe_iconstv (n := 1) (v := 1) (by decide +kernel) (by decide +kernel) ?_
                            refine pe_bipushv (n := 25) (v := 25) (by decide +kernel) (by decide +kernel) ?_
                            refine pi_S (j := 78) (mj := 205) (by decide +kernel) (by decide +kernel) rfl ?_
                            show pmE pg X pg_tyl pg_cl (d) 205 0 [.int 16, .int 1, .int 25] [] (md wc f44 A) _
                            refine pe_iload_n (j := 0) (by decide +kernel) rfl ?_
                            refine pe_bipushv (n := 32) (v := 32) (by decide +kernel) (by decide +kernel) ?_
                            refine pe_imul (by decide +kernel) ?_
                            refine pe_top (v := 512) (by decide +kernel) ?_
                            refine pe_iload_n (j := 1) (by decide +kernel) rfl ?_
                            refine pe_iadd (by decide +kernel) ?_
                            refine pe_top (v := 513) (by decide +kernel) ?_
                            refine pe_bipushv (n := 32) (v := 32) (by decide +kernel) (by decide +kernel) ?_
                            refine pe_imul (by decide +kernel) ?_
                            refine pe_top (v := 16416) (by decide +kernel) ?_
                            refine pe_iload_n (j := 2) (by decide +kernel) rfl ?_
                            refine pe_iadd (by decide +kernel) ?_
                            refine pe_top (v := 16441) (by decide +kernel) ?_
                            refine pe_iret (by decide +kernel) rfl rfl ⟨rfl, rfl, ?_⟩
                            show pmE pg X pg_tyl pg_cl (d + 1) 204 164 [.int y46] [.int 16441, .int y46] (md wc f44 A) _
                            refine pz_icmp_ne (off := 6) (t := 170) (by decide +kernel) (by decide) rfl rfl kz_16441 (fun h109 => ?_) (fun h109 => ?_)
                            · skip
                              refine pe_iload_n (j := 0) (by decide +kernel) rfl ?_
                              refine pe_bipushv (n := 18) (v := 18) (by decide +kernel) (by decide +kernel) ?_
                              refine pe_bipushv (n := 9) (v := 9) (by decide +kernel) (by decide +kernel) ?_
                              refine pe_bipushv (n := 14) (v := 14) (by decide +kernel) (by decide +kernel) ?_
                              refine pi_S (j := 78) (mj := 205) (by decide +kernel) (by decide +kernel) rfl ?_
                              show pmE pg X pg_tyl pg_cl (d) 205 0 [.int 18, .int 9, .int 14] [] (md wc f44 A) _
                              refine pe_iload_n (j := 0) (by decide +kernel) rfl ?_
                              refine pe_bipushv (n := 32) (v := 32) (by decide +kernel) (by decide +kernel) ?_
                              refine pe_imul (by decide +kernel) ?_
                              refine pe_top (v := 576) (by decide +kernel) ?_
                              refine pe_iload_n (j := 1) (by decide +kernel) rfl ?_
                              refine pe_iadd (by decide +kernel) ?_
                              refine pe_top (v := 585) (by decide +kernel) ?_
                              refine pe_bipushv (n := 32) (v := 32) (by decide +kernel) (by decide +kernel) ?_
                              refine pe_imul (by decide +kernel) ?_
                              refine pe_top (v := 18720) (by decide +kernel) ?_
                              refine pe_iload_n (j := 2) (by decide +kernel) rfl ?_
                              refine pe_iadd (by decide +kernel) ?_
                              refine pe_top (v := 18734) (by decide +kernel) ?_
                              refine pe_iret (by decide +kernel) rfl rfl ⟨rfl, rfl, ?_⟩
                              show pmE pg X pg_tyl pg_cl (d + 1) 204 180 [.int y46] [.int 18734, .int y46] (md wc f44 A) _
                              refine pe_bipushv (n := 32) (v := 32) (by decide +kernel) (by decide +kernel) ?_
                              refine pe_imul (by decide +kernel) ?_
                              refine pe_top (v := 599488) (by decide +kernel) ?_
                              refine pe_bipushv (n := 7) (v := 7) (by decide +kernel) (by decide +kernel) ?_
                              refine pe_iadd (by decide +kernel) ?_
                              refine pe_top (v := 599495) (by decide +kernel) ?_
                              refine pz_icmp_ne (off := 6) (t := 192) (by decide +kernel) (by decide) rfl rfl kz_599495 (fun h116 => ?_) (fun h116 => ?_)
                              · skip
                                refine pe_iload_n (j := 0) (by decide +kernel) rfl ?_
                                refine pe_bipushv (n := 19) (v := 19) (by decide +kernel) (by decide +kernel) ?_
                                refine pe_bipushv (n := 20) (v := 20) (by decide +kernel) (by decide +kernel) ?_
                                refine pe_bipushv (n := 18) (v := 18) (by decide +kernel) (by decide +kernel) ?_
                                refine pi_S (j := 78) (mj := 205) (by decide +kernel) (by decide +kernel) rfl ?_
                                show pmE pg X pg_tyl pg_cl (d) 205 0 [.int 19, .int 20, .int 18] [] (md wc f44 A) _
                                refine pe_iload_n (j := 0) (by decide +kernel) rfl ?_
                                refine pe_bipushv (n := 32) (v := 32) (by decide +kernel) (by decide +kernel) ?_
                                refine pe_imul (by decide +kernel) ?_
                                refine pe_top (v := 608) (by decide +kernel) ?_
                                refine pe_iload_n (j := 1) (by decide +kernel) rfl ?_
                                refine pe_iadd (by decide +kernel) ?_
                                refine pe_top (v := 628) (by decide +kernel) ?_
                                refine pe_bipushv (n := 32) (v := 32) (by decide +kernel) (by decide +kernel) ?_
                                refine pe_imul (by decide +kernel) ?_
                                refine pe_top (v := 20096) (by decide +kernel) ?_
                                refine pe_iload_n (j := 2) (by decide +kernel) rfl ?_
                                refine pe_iadd (by decide +kernel) ?_
                                refine pe_top (v := 20114) (by decide +kernel) ?_
                                refine pe_iret (by decide +kernel) rfl rfl ⟨rfl, rfl, ?_⟩
                                show pmE pg X pg_tyl pg_cl (d + 1) 204 202 [.int y46] [.int 20114, .int y46] (md wc f44 A) _
                                refine pe_ldc (j := 82) (v := 32768) (by decide +kernel) (by decide +kernel) ?_
                                refine pe_imul (by decide +kernel) ?_
                                refine pe_top (v := 659095552) (by decide +kernel) ?_
                                refine pe_bipushv (n := 9) (v := 9) (by decide +kernel) (by decide +kernel) ?_
                                refine pe_bipushv (n := 11) (v := 11) (by decide +kernel) (by decide +kernel) ?_
                                refine pe_iconstv (n := 5) (v := 5) (by decide +kernel) (by decide +kernel) ?_
                                refine pi_S (j := 78) (mj := 205) (by decide +kernel) (by decide +kernel) rfl ?_
                                show pmE pg X pg_tyl pg_cl (d) 205 0 [.int 9, .int 11, .int 5] [] (md wc f44 A) _
                                refine pe_iload_n (j := 0) (by decide +kernel) rfl ?_
                                refine pe_bipushv (n := 32) (v := 32) (by decide +kernel) (by decide +kernel) ?_
                                refine pe_imul (by decide +kernel) ?_
                                refine pe_top (v := 288) (by decide +kernel) ?_
                                refine pe_iload_n (j := 1) (by decide +kernel) rfl ?_
                                refine pe_iadd (by decide +kernel) ?_
                                refine pe_top (v := 299) (by decide +kernel) ?_
                                refine pe_bipushv (n := 32) (v := 32) (by decide +kernel) (by decide +kernel) ?_
                                refine pe_imul (by decide +kernel) ?_
                                refine pe_top (v := 9568) (by decide +kernel) ?_
                                refine pe_iload_n (j := 2) (by decide +kernel) rfl ?_
                                refine pe_iadd (by decide +kernel) ?_
                                refine pe_top (v := 9573) (by decide +kernel) ?_
                                refine pe_iret (by decide +kernel) rfl rfl ⟨rfl, rfl, ?_⟩
                                show pmE pg X pg_tyl pg_cl (d + 1) 204 213 [.int y46] [.int 9573, .int 659095552, .int y46] (md wc f44 A) _
                                refine pe_iadd (by decide +kernel) ?_
                                refine pe_top (v := 659105125) (by decide +kernel) ?_
                                refine pz_icmp_ne (off := 6) (t := 220) (by decide +kernel) (by decide) rfl rfl kz_659105125 (fun h127 => ?_) (fun h127 => ?_)
                                · skip
                                  refine pe_iload_n (j := 0) (by decide +kernel) rfl ?_
                                  refine pe_bipushv (n := 6) (v := 6) (by decide +kernel) (by decide +kernel) ?_
                                  refine pe_iconstv (n := 1) (v := 1) (by decide +kernel) (by decide +kernel) ?_
                                  refine pe_bipushv (n := 9) (v := 9) (by decide +kernel) (by decide +kernel) ?_
                                  refine pi_S (j := 78) (mj := 205) (by decide +kernel) (by decide +kernel) rfl ?_
                                  show pmE pg X pg_tyl pg_cl (d) 205 0 [.int 6, .int 1, .int 9] [] (md wc f44 A) _
                                  refine pe_iload_n (j := 0) (by decide +kernel) rfl ?_
                                  refine pe_bipushv (n := 32) (v := 32) (by decide +kernel) (by decide +kernel) ?_
                                  refine pe_imul (by decide +kernel) ?_
                                  refine pe_top (v := 192) (by decide +kernel) ?_
                                  refine pe_iload_n (j := 1) (by decide +kernel) rfl ?_
                                  refine pe_iadd (by decide +kernel) ?_
                                  refine pe_top (v := 193) (by decide +kernel) ?_
                                  refine pe_bipushv (n := 32) (v := 32) (by decide +kernel) (by decide +kernel) ?_
                                  refine pe_imul (by decide +kernel) ?_
                                  refine pe_top (v := 6176) (by decide +kernel) ?_
                                  refine pe_iload_n (j := 2) (by decide +kernel) rfl ?_
                                  refine pe_iadd (by decide +kernel) ?_
                                  refine pe_top (v := 6185) (by decide +kernel) ?_
                                  refine pe_iret (by decide +kernel) rfl rfl ⟨rfl, rfl, ?_⟩
                                  show pmE pg X pg_tyl pg_cl (d + 1) 204 229 [.int y46] [.int 6185, .int y46] (md wc f44 A) _
                                  refine pe_bipushv (n := 32) (v := 32) (by decide +kernel) (by decide +kernel) ?_
                                  refine pe_imul (by decide +kernel) ?_
                                  refine pe_top (v := 197920) (by decide +kernel) ?_
                                  refine pe_bipushv (n := 12) (v := 12) (by decide +kernel) (by decide +kernel) ?_
                                  refine pe_iadd (by decide +kernel) ?_
                                  refine pe_top (v := 197932) (by decide +kernel) ?_
                                  refine pz_icmp_ne (off := 6) (t := 241) (by decide +kernel) (by decide) rfl rfl kz_197932 (fun h134 => ?_) (fun h134 => ?_)
                                  · skip
                                    refine pe_iload_n (j := 0) (by decide +kernel) rfl ?_
                                    refine pe_bipushv (n := 13) (v := 13) (by decide +kernel) (by decide +kernel) ?_
                                    refine pe_bipushv (n := 15) (v := 15) (by decide +kernel) (by decide +kernel) ?_
                                    refine pe_bipushv (n := 14) (v := 14) (by decide +kernel) (by decide +kernel) ?_
                                    refine pi_S (j := 78) (mj := 205) (by decide +kernel) (by decide +kernel) rfl ?_
                                    show pmE pg X pg_tyl pg_cl (d) 205 0 [.int 13, .int 15, .int 14] [] (md wc f44 A) _
                                    refine pe_iload_n (j := 0) (by decide +kernel) rfl ?_
                                    refine pe_bipushv (n := 32) (v := 32) (by decide +kernel) (by decide +kernel) ?_
                                    refine pe_imul (by decide +kernel) ?_
                                    refine pe_top (v := 416) (by decide +kernel) ?_
                                    refine pe_iload_n (j := 1) (by decide +kernel) rfl ?_
                                    refine pe_iadd (by decide +kernel) ?_
                                    refine pe_top (v := 431) (by decide +kernel) ?_
                                    refine pe_bipushv (n := 32) (v := 32) (by decide +kernel) (by decide +kernel) ?_
                                    refine pe_imul (by decide +kernel) ?_
                                    refine pe_top (v := 13792) (by decide +kernel) ?_
                                    refine pe_iload_n (j := 2) (by decide +kernel) rfl ?_
                                    refine pe_iadd (by decide +kernel) ?_
                                    refine pe_top (v := 13806) (by decide +kernel) ?_
                                    refine pe_iret (by decide +kernel) rfl rfl ⟨rfl, rfl, ?_⟩
                                    show pmE pg X pg_tyl pg_cl (d + 1) 204 251 [.int y46] [.int 13806, .int y46] (md wc f44 A) _
                                    refine pe_sipushv (n := 1024) (v := 1024) (by decide +kernel) (by decide +kernel) ?_
                                    refine pe_imul (by decide +kernel) ?_
                                    refine pe_top (v := 14137344) (by decide +kernel) ?_
                                    refine pe_sipushv (n := 640) (v := 640) (by decide +kernel) (by decide +kernel) ?_
                                    refine pe_iadd (by decide +kernel) ?_
                                    refine pe_top (v := 14137984) (by decide +kernel) ?_
                                    refine pe_bipushv (n := 8) (v := 8) (by decide +kernel) (by decide +kernel) ?_
                                    refine pe_iadd (by decide +kernel) ?_
                                    refine pe_top (v := 14137992) (by decide +kernel) ?_
                                    refine pz_icmp_ne (off := 8) (t := 270) (by decide +kernel) (by decide) rfl rfl kz_14137992 (fun h142 => ?_) (fun h142 => ?_)
                                    · skip
                                      refine pe_bipushv (n := 99) (v := 99) (by decide +kernel) (by decide +kernel) ?_
                                      refine pe_iret (by decide +kernel) rfl rfl ⟨rfl, rfl, ?_⟩
                                      show pmE pg X pg_tyl pg_cl (d + 2) 201 159 [.ref 147, .int v8, .int y46] [.int 99, .ref 147] (md wc f44 A) _
                                      refine mz_put7 (jj := 103) (by decide +kernel) (by decide +kernel) hc hIy45 (fun f143 ef143 hIf143 => ?_)
                                      refine pe_aload_n (j := 0) (by decide +kernel) rfl ?_
                                      refine pe_aload_n (j := 0) (by decide +kernel) rfl ?_
                                      refine pe_get (j := 103) (ci := 12) (n := 7) (by decide +kernel) (by decide +kernel) (md_o hc) rfl ?_
                                      refine pe_top (v := 99) (upf_at ef143) ?_
                                      refine pe_bipushv (n := 99) (v := 99) (by decide +kernel) (by decide +kernel) ?_
                                      refine pz_icmp_ne (off := 7) (t := 176) (by decide +kernel) (by decide) rfl kz_99 kz_99 (fun h144 => by omega) (fun h144 => ?_)
                                      refine pe_iconstv (n := 4) (v := 4) (by decide +kernel) (by decide +kernel) ?_
                                      refine pe_goto (off := 4) (t := 177) (by decide +kernel) (by decide) rfl ?_
                                      refine mz_put5 (jj := 93) (by decide +kernel) (by decide +kernel) hc hIf143 (by decide +kernel) (by decide +kernel) (fun f145 ef145 hIf145 => ?_)
                                      refine pe_goto (off := 128) (t := 308) (by decide +kernel) (by decide) rfl ?_
                                      exact pe_vret (by decide +kernel) rfl ⟨f145, rfl, hIf145, (fun k n3 n4 n5 n6 n7 => (upf_fr ef145 n5).trans ((upf_fr ef143 n7).trans (((hGhIy45 k n3)).trans ((upf_fr ef3 n4).trans ((hGhIy2 k n3)))))), trivial⟩
                                    · skip
                                      refine pe_bipushv (n := 16) (v := 16) (by decide +kernel) (by decide +kernel) ?_
                                      refine pe_goto (off := 5) (t := 272) (by decide +kernel) (by decide) rfl ?_
                                      refine pe_iret (by decide +kernel) rfl rfl ⟨rfl, rfl, ?_⟩
                                      show pmE pg X pg_tyl pg_cl (d + 2) 201 159 [.ref 147, .int v8, .int y46] [.int 16, .ref 147] (md wc f44 A) _
                                      refine mz_put7 (jj := 103) (by decide +kernel) (by decide +kernel) hc hIy45 (fun f146 ef146 hIf146 => ?_)
                                      refine pe_aload_n (j := 0) (by decide +kernel) rfl ?_
                                      refine pe_aload_n (j := 0) (by decide +kernel) rfl ?_
                                      refine pe_get (j := 103) (ci := 12) (n := 7) (by decide +kernel) (by decide +kernel) (md_o hc) rfl ?_
                                      refine pe_top (v := 16) (upf_at ef146) ?_
                                      refine pe_bipushv (n := 99) (v := 99) (by decide +kernel) (by decide +kernel) ?_
                                      refine pz_icmp_ne (off := 7) (t := 176) (by decide +kernel) (by decide) rfl kz_16 kz_99 (fun h147 => ?_) (fun h147 => by omega)
                                      refine pe_iconstv (n := 3) (v := 3) (by decide +kernel) (by decide +kernel) ?_
                                      refine mz_put5 (jj := 93) (by decide +kernel) (by decide +kernel) hc hIf146 (by decide +kernel) (by decide +kernel) (fun f148 ef148 hIf148 => ?_)
                                      refine pe_goto (off := 128) (t := 308) (by decide +kernel) (by decide) rfl ?_
                                      exact pe_vret (by decide +kernel) rfl ⟨f148, rfl, hIf148, (fun k n3 n4 n5 n6 n7 => (upf_fr ef148 n5).trans ((upf_fr ef146 n7).trans (((hGhIy45 k n3)).trans ((upf_fr ef3 n4).trans ((hGhIy2 k n3)))))), trivial⟩
                                  · skip
                                    refine pe_bipushv (n := 15) (v := 15) (by decide +kernel) (by decide +kernel) ?_
                                    refine pe_iret (by decide +kernel) rfl rfl ⟨rfl, rfl, ?_⟩
                                    show pmE pg X pg_tyl pg_cl (d + 2) 201 159 [.ref 147, .int v8, .int y46] [.int 15, .ref 147] (md wc f44 A) _
                                    refine mz_put7 (jj := 103) (by decide +kernel) (by decide +kernel) hc hIy45 (fun f149 ef149 hIf149 => ?_)
                                    refine pe_aload_n (j := 0) (by decide +kernel) rfl ?_
                                    refine pe_aload_n (j := 0) (by decide +kernel) rfl ?_
                                    refine pe_get (j := 103) (ci := 12) (n := 7) (by decide +kernel) (by decide +kernel) (md_o hc) rfl ?_
                                    refine pe_top (v := 15) (upf_at ef149) ?_
                                    refine pe_bipushv (n := 99) (v := 99) (by decide +kernel) (by decide +kernel) ?_
                                    refine pz_icmp_ne (off := 7) (t := 176) (by decide +kernel) (by decide) rfl kz_15 kz_99 (fun h150 => ?_) (fun h150 => by omega)
                                    refine pe_iconstv (n := 3) (v := 3) (by decide +kernel) (by decide +kernel) ?_
                                    refine mz_put5 (jj := 93) (by decide +kernel) (by decide +kernel) hc hIf149 (by decide +kernel) (by decide +kernel) (fun f151 ef151 hIf151 => ?_)
                                    refine pe_goto (off := 128) (t := 308) (by decide +kernel) (by decide) rfl ?_
                                    exact pe_vret (by decide +kernel) rfl ⟨f151, rfl, hIf151, (fun k n3 n4 n5 n6 n7 => (upf_fr ef151 n5).trans ((upf_fr ef149 n7).trans (((hGhIy45 k n3)).trans ((upf_fr ef3 n4).trans ((hGhIy2 k n3)))))), trivial⟩
                                · skip
                                  refine pe_bipushv (n := 14) (v := 14) (by decide +kernel) (by decide +kernel) ?_
                                  refine pe_iret (by decide +kernel) rfl rfl ⟨rfl, rfl, ?_⟩
                                  show pmE pg X pg_tyl pg_cl (d + 2) 201 159 [.ref 147, .int v8, .int y46] [.int 14, .ref 147] (md wc f44 A) _
                                  refine mz_put7 (jj := 103) (by decide +kernel) (by decide +kernel) hc hIy45 (fun f152 ef152 hIf152 => ?_)
                                  refine pe_aload_n (j := 0) (by decide +kernel) rfl ?_
                                  refine pe_aload_n (j := 0) (by decide +kernel) rfl ?_
                                  refine pe_get (j := 103) (ci := 12) (n := 7) (by decide +kernel) (by decide +kernel) (md_o hc) rfl ?_
                                  refine pe_top (v := 14) (upf_at ef152) ?_
                                  refine pe_bipushv (n := 99) (v := 99) (by decide +kernel) (by decide +kernel) ?_
                                  refine pz_icmp_ne (off := 7) (t := 176) (by decide +kernel) (by decide) rfl kz_14 kz_99 (fun h153 => ?_) (fun h153 => by omega)
                                  refine pe_iconstv (n := 3) (v := 3) (by decide +kernel) (by decide +kernel) ?_
                                  refine mz_put5 (jj := 93) (by decide +kernel) (by decide +kernel) hc hIf152 (by decide +kernel) (by decide +kernel) (fun f154 ef154 hIf154 => ?_)
                                  refine pe_goto (off := 128) (t := 308) (by decide +kernel) (by decide) rfl ?_
                                  exact pe_vret (by decide +kernel) rfl ⟨f154, rfl, hIf154, (fun k n3 n4 n5 n6 n7 => (upf_fr ef154 n5).trans ((upf_fr ef152 n7).trans (((hGhIy45 k n3)).trans ((upf_fr ef3 n4).trans ((hGhIy2 k n3)))))), trivial⟩
                              · skip
                                refine pe_bipushv (n := 13) (v := 13) (by decide +kernel) (by decide +kernel) ?_
                                refine pe_iret (by decide +kernel) rfl rfl ⟨rfl, rfl, ?_⟩
                                show pmE pg X pg_tyl pg_cl (d + 2) 201 159 [.ref 147, .int v8, .int y46] [.int 13, .ref 147] (md wc f44 A) _
                                refine mz_put7 (jj := 103) (by decide +kernel) (by decide +kernel) hc hIy45 (fun f155 ef155 hIf155 => ?_)
                                refine pe_aload_n (j := 0) (by decide +kernel) rfl ?_
                                refine pe_aload_n (j := 0) (by decide +kernel) rfl ?_
                                refine pe_get (j := 103) (ci := 12) (n := 7) (by decide +kernel) (by decide +kernel) (md_o hc) rfl ?_
                                refine pe_top (v := 13) (upf_at ef155) ?_
                                refine pe_bipushv (n := 99) (v := 99) (by decide +kernel) (by decide +kernel) ?_
                                refine pz_icmp_ne (off := 7) (t := 176) (by decide +kernel) (by decide) rfl kz_13 kz_99 (fun h156 => ?_) (fun h156 => by omega)
                                refine pe_iconstv (n := 3) (v := 3) (by decide +kernel) (by decide +kernel) ?_
                                refine mz_put5 (jj := 93) (by decide +kernel) (by decide +kernel) hc hIf155 (by decide +kernel) (by decide +kernel) (fun f157 ef157 hIf157 => ?_)
                                refine pe_goto (off := 128) (t := 308) (by decide +kernel) (by decide) rfl ?_
                                exact pe_vret (by decide +kernel) rfl ⟨f157, rfl, hIf157, (fun k n3 n4 n5 n6 n7 => (upf_fr ef157 n5).trans ((upf_fr ef155 n7).trans (((hGhIy45 k n3)).trans ((upf_fr ef3 n4).trans ((hGhIy2 k n3)))))), trivial⟩
                            · skip
                              refine pe_bipushv (n := 12) (v := 12) (by decide +kernel) (by decide +kernel) ?_
                              refine pe_iret (by decide +kernel) rfl rfl ⟨rfl, rfl, ?_⟩
                              show pmE pg X pg_tyl pg_cl (d + 2) 201 159 [.ref 147, .int v8, .int y46] [.int 12, .ref 147] (md wc f44 A) _
                              refine mz_put7 (jj := 103) (by decide +kernel) (by decide +kernel) hc hIy45 (fun f158 ef158 hIf158 => ?_)
                              refine pe_aload_n (j := 0) (by decide +kernel) rfl ?_
                              refine pe_aload_n (j := 0) (by decide +kernel) rfl ?_
                              refine pe_get (j := 103) (ci := 12) (n := 7) (by decide +kernel) (by decide +kernel) (md_o hc) rfl ?_
                              refine pe_top (v := 12) (upf_at ef158) ?_
                              refine pe_bipushv (n := 99) (v := 99) (by decide +kernel) (by decide +kernel) ?_
                              refine pz_icmp_ne (off := 7) (t := 176) (by decide +kernel) (by decide) rfl kz_12 kz_99 (fun h159 => ?_) (fun h159 => by omega)
                              refine pe_iconstv (n := 3) (v := 3) (by decide +kernel) (by decide +kernel) ?_
                              refine mz_put5 (jj := 93) (by decide +kernel) (by decide +kernel) hc hIf158 (by decide +kernel) (by decide +kernel) (fun f160 ef160 hIf160 => ?_)
                              refine pe_goto (off := 128) (t := 308) (by decide +kernel) (by decide) rfl ?_
                              exact pe_vret (by decide +kernel) rfl ⟨f160, rfl, hIf160, (fun k n3 n4 n5 n6 n7 => (upf_fr ef160 n5).trans ((upf_fr ef158 n7).trans (((hGhIy45 k n3)).trans ((upf_fr ef3 n4).trans ((hGhIy2 k n3)))))), trivial⟩
                          · skip
                            refine pe_bipushv (n := 11) (v := 11) (by decide +kernel) (by decide +kernel) ?_
                            refine pe_iret (by decide +kernel) rfl rfl ⟨rfl, rfl, ?_⟩
                            show pmE pg X pg_tyl pg_cl (d + 2) 201 159 [.ref 147, .int v8, .int y46] [.int 11, .ref 147] (md wc f44 A) _
                            refine mz_put7 (jj := 103) (by decide +kernel) (by decide +kernel) hc hIy45 (fun f161 ef161 hIf161 => ?_)
                            refine pe_aload_n (j := 0) (by decide +kernel) rfl ?_
                            refine pe_aload_n (j := 0) (by decide +kernel) rfl ?_
                            refine pe_get (j := 103) (ci := 12) (n := 7) (by decide +kernel) (by decide +kernel) (md_o hc) rfl ?_
                            refine pe_top (v := 11) (upf_at ef161) ?_
                            refine pe_bipushv (n := 99) (v := 99) (by decide +kernel) (by decide +kernel) ?_
                            refine pz_icmp_ne (off := 7) (t := 176) (by decide +kernel) (by decide) rfl kz_11 kz_99 (fun h162 => ?_) (fun h162 => by omega)
                            refine pe_iconstv (n := 3) (v := 3) (by decide +kernel) (by decide +kernel) ?_
                            refine mz_put5 (jj := 93) (by decide +kernel) (by decide +kernel) hc hIf161 (by decide +kernel) (by decide +kernel) (fun f163 ef163 hIf163 => ?_)
                            refine pe_goto (off := 128) (t := 308) (by decide +kernel) (by decide) rfl ?_
                            exact pe_vret (by decide +kernel) rfl ⟨f163, rfl, hIf163, (fun k n3 n4 n5 n6 n7 => (upf_fr ef163 n5).trans ((upf_fr ef161 n7).trans (((hGhIy45 k n3)).trans ((upf_fr ef3 n4).trans ((hGhIy2 k n3)))))), trivial⟩
                        · skip
                          refine pe_bipushv (n := 7) (v := 7) (by decide +kernel) (by decide +kernel) ?_
                          refine pe_iret (by decide +kernel) rfl rfl ⟨rfl, rfl, ?_⟩
                          show pmE pg X pg_tyl pg_cl (d + 2) 201 159 [.ref 147, .int v8, .int y46] [.int 7, .ref 147] (md wc f44 A) _
                          refine mz_put7 (jj := 103) (by decide +kernel) (by decide +kernel) hc hIy45 (fun f164 ef164 hIf164 => ?_)
                          refine pe_aload_n (j := 0) (by decide +kernel) rfl ?_
                          refine pe_aload_n (j := 0) (by decide +kernel) rfl ?_
                          refine pe_get (j := 103) (ci := 12) (n := 7) (by decide +kernel) (by decide +kernel) (md_o hc) rfl ?_
                          refine pe_top (v := 7) (upf_at ef164) ?_
                          refine pe_bipushv (n := 99) (v := 99) (by decide +kernel) (by decide +kernel) ?_
                          refine pz_icmp_ne (off := 7) (t := 176) (by decide +kernel) (by decide) rfl kz_7 kz_99 (fun h165 => ?_) (fun h165 => by omega)
                          refine pe_iconstv (n := 3) (v := 3) (by decide +kernel) (by decide +kernel) ?_
                          refine mz_put5 (jj := 93) (by decide +kernel) (by decide +kernel) hc hIf164 (by decide +kernel) (by decide +kernel) (fun f166 ef166 hIf166 => ?_)
                          refine pe_goto (off := 128) (t := 308) (by decide +kernel) (by decide) rfl ?_
                          exact pe_vret (by decide +kernel) rfl ⟨f166, rfl, hIf166, (fun k n3 n4 n5 n6 n7 => (upf_fr ef166 n5).trans ((upf_fr ef164 n7).trans (((hGhIy45 k n3)).trans ((upf_fr ef3 n4).trans ((hGhIy2 k n3)))))), trivial⟩
                      · skip
                        refine pe_bipushv (n := 6) (v := 6) (by decide +kernel) (by decide +kernel) ?_
                        refine pe_iret (by decide +kernel) rfl rfl ⟨rfl, rfl, ?_⟩
                        show pmE pg X pg_tyl pg_cl (d + 2) 201 159 [.ref 147, .int v8, .int y46] [.int 6, .ref 147] (md wc f44 A) _
                        refine mz_put7 (jj := 103) (by decide +kernel) (by decide +kernel) hc hIy45 (fun f167 ef167 hIf167 => ?_)
                        refine pe_aload_n (j := 0) (by decide +kernel) rfl ?_
                        refine pe_aload_n (j := 0) (by decide +kernel) rfl ?_
                        refine pe_get (j := 103) (ci := 12) (n := 7) (by decide +kernel) (by decide +kernel) (md_o hc) rfl ?_
                        refine pe_top (v := 6) (upf_at ef167) ?_
                        refine pe_bipushv (n := 99) (v := 99) (by decide +kernel) (by decide +kernel) ?_
                        refine pz_icmp_ne (off := 7) (t := 176) (by decide +kernel) (by decide) rfl kz_6 kz_99 (fun h168 => ?_) (fun h168 => by omega)
                        refine pe_iconstv (n := 3) (v := 3) (by decide +kernel) (by decide +kernel) ?_
                        refine mz_put5 (jj := 93) (by decide +kernel) (by decide +kernel) hc hIf167 (by decide +kernel) (by decide +kernel) (fun f169 ef169 hIf169 => ?_)
                        refine pe_goto (off := 128) (t := 308) (by decide +kernel) (by decide) rfl ?_
                        exact pe_vret (by decide +kernel) rfl ⟨f169, rfl, hIf169, (fun k n3 n4 n5 n6 n7 => (upf_fr ef169 n5).trans ((upf_fr ef167 n7).trans (((hGhIy45 k n3)).trans ((upf_fr ef3 n4).trans ((hGhIy2 k n3)))))), trivial⟩
                    · skip
                      refine pe_iconstv (n := 5) (v := 5) (by decide +kernel) (by decide +kernel) ?_
                      refine pe_iret (by decide +kernel) rfl rfl ⟨rfl, rfl, ?_⟩
                      show pmE pg X pg_tyl pg_cl (d + 2) 201 159 [.ref 147, .int v8, .int y46] [.int 5, .ref 147] (md wc f44 A) _
                      refine mz_put7 (jj := 103) (by decide +kernel) (by decide +kernel) hc hIy45 (fun f170 ef170 hIf170 => ?_)
                      refine pe_aload_n (j := 0) (by decide +kernel) rfl ?_
                      refine pe_aload_n (j := 0) (by decide +kernel) rfl ?_
                      refine pe_get (j := 103) (ci := 12) (n := 7) (by decide +kernel) (by decide +kernel) (md_o hc) rfl ?_
                      refine pe_top (v := 5) (upf_at ef170) ?_
                      refine pe_bipushv (n := 99) (v := 99) (by decide +kernel) (by decide +kernel) ?_
                      refine pz_icmp_ne (off := 7) (t := 176) (by decide +kernel) (by decide) rfl kz_5 kz_99 (fun h171 => ?_) (fun h171 => by omega)
                      refine pe_iconstv (n := 3) (v := 3) (by decide +kernel) (by decide +kernel) ?_
                      refine mz_put5 (jj := 93) (by decide +kernel) (by decide +kernel) hc hIf170 (by decide +kernel) (by decide +kernel) (fun f172 ef172 hIf172 => ?_)
                      refine pe_goto (off := 128) (t := 308) (by decide +kernel) (by decide) rfl ?_
                      exact pe_vret (by decide +kernel) rfl ⟨f172, rfl, hIf172, (fun k n3 n4 n5 n6 n7 => (upf_fr ef172 n5).trans ((upf_fr ef170 n7).trans (((hGhIy45 k n3)).trans ((upf_fr ef3 n4).trans ((hGhIy2 k n3)))))), trivial⟩
                  · skip
                    refine pe_iconstv (n := 4) (v := 4) (by decide +kernel) (by decide +kernel) ?_
                    refine pe_iret (by decide +kernel) rfl rfl ⟨rfl, rfl, ?_⟩
                    show pmE pg X pg_tyl pg_cl (d + 2) 201 159 [.ref 147, .int v8, .int y46] [.int 4, .ref 147] (md wc f44 A) _
                    refine mz_put7 (jj := 103) (by decide +kernel) (by decide +kernel) hc hIy45 (fun f173 ef173 hIf173 => ?_)
                    refine pe_aload_n (j := 0) (by decide +kernel) rfl ?_
                    refine pe_aload_n (j := 0) (by decide +kernel) rfl ?_
                    refine pe_get (j := 103) (ci := 12) (n := 7) (by decide +kernel) (by decide +kernel) (md_o hc) rfl ?_
                    refine pe_top (v := 4) (upf_at ef173) ?_
                    refine pe_bipushv (n := 99) (v := 99) (by decide +kernel) (by decide +kernel) ?_
                    refine pz_icmp_ne (off := 7) (t := 176) (by decide +kernel) (by decide) rfl kz_4 kz_99 (fun h174 => ?_) (fun h174 => by omega)
                    refine pe_iconstv (n := 3) (v := 3) (by decide +kernel) (by decide +kernel) ?_
                    refine mz_put5 (jj := 93) (by decide +kernel) (by decide +kernel) hc hIf173 (by decide +kernel) (by decide +kernel) (fun f175 ef175 hIf175 => ?_)
                    refine pe_goto (off := 128) (t := 308) (by decide +kernel) (by decide) rfl ?_
                    exact pe_vret (by decide +kernel) rfl ⟨f175, rfl, hIf175, (fun k n3 n4 n5 n6 n7 => (upf_fr ef175 n5).trans ((upf_fr ef173 n7).trans (((hGhIy45 k n3)).trans ((upf_fr ef3 n4).trans ((hGhIy2 k n3)))))), trivial⟩
                · skip
                  refine pe_iconstv (n := 3) (v := 3) (by decide +kernel) (by decide +kernel) ?_
                  refine pe_iret (by decide +kernel) rfl rfl ⟨rfl, rfl, ?_⟩
                  show pmE pg X pg_tyl pg_cl (d + 2) 201 159 [.ref 147, .int v8, .int y46] [.int 3, .ref 147] (md wc f44 A) _
                  refine mz_put7 (jj := 103) (by decide +kernel) (by decide +kernel) hc hIy45 (fun f176 ef176 hIf176 => ?_)
                  refine pe_aload_n (j := 0) (by decide +kernel) rfl ?_
                  refine pe_aload_n (j := 0) (by decide +kernel) rfl ?_
                  refine pe_get (j := 103) (ci := 12) (n := 7) (by decide +kernel) (by decide +kernel) (md_o hc) rfl ?_
                  refine pe_top (v := 3) (upf_at ef176) ?_
                  refine pe_bipushv (n := 99) (v := 99) (by decide +kernel) (by decide +kernel) ?_
                  refine pz_icmp_ne (off := 7) (t := 176) (by decide +kernel) (by decide) rfl kz_3 kz_99 (fun h177 => ?_) (fun h177 => by omega)
                  refine pe_iconstv (n := 3) (v := 3) (by decide +kernel) (by decide +kernel) ?_
                  refine mz_put5 (jj := 93) (by decide +kernel) (by decide +kernel) hc hIf176 (by decide +kernel) (by decide +kernel) (fun f178 ef178 hIf178 => ?_)
                  refine pe_goto (off := 128) (t := 308) (by decide +kernel) (by decide) rfl ?_
                  exact pe_vret (by decide +kernel) rfl ⟨f178, rfl, hIf178, (fun k n3 n4 n5 n6 n7 => (upf_fr ef178 n5).trans ((upf_fr ef176 n7).trans (((hGhIy45 k n3)).trans ((upf_fr ef3 n4).trans ((hGhIy2 k n3)))))), trivial⟩
              · skip
                refine pe_iconstv (n := 2) (v := 2) (by decide +kernel) (by decide +kernel) ?_
                refine pe_iret (by decide +kernel) rfl rfl ⟨rfl, rfl, ?_⟩
                show pmE pg X pg_tyl pg_cl (d + 2) 201 159 [.ref 147, .int v8, .int y46] [.int 2, .ref 147] (md wc f44 A) _
                refine mz_put7 (jj := 103) (by decide +kernel) (by decide +kernel) hc hIy45 (fun f179 ef179 hIf179 => ?_)
                refine pe_aload_n (j := 0) (by decide +kernel) rfl ?_
                refine pe_aload_n (j := 0) (by decide +kernel) rfl ?_
                refine pe_get (j := 103) (ci := 12) (n := 7) (by decide +kernel) (by decide +kernel) (md_o hc) rfl ?_
                refine pe_top (v := 2) (upf_at ef179) ?_
                refine pe_bipushv (n := 99) (v := 99) (by decide +kernel) (by decide +kernel) ?_
                refine pz_icmp_ne (off := 7) (t := 176) (by decide +kernel) (by decide) rfl kz_2 kz_99 (fun h180 => ?_) (fun h180 => by omega)
                refine pe_iconstv (n := 3) (v := 3) (by decide +kernel) (by decide +kernel) ?_
                refine mz_put5 (jj := 93) (by decide +kernel) (by decide +kernel) hc hIf179 (by decide +kernel) (by decide +kernel) (fun f181 ef181 hIf181 => ?_)
                refine pe_goto (off := 128) (t := 308) (by decide +kernel) (by decide) rfl ?_
                exact pe_vret (by decide +kernel) rfl ⟨f181, rfl, hIf181, (fun k n3 n4 n5 n6 n7 => (upf_fr ef181 n5).trans ((upf_fr ef179 n7).trans (((hGhIy45 k n3)).trans ((upf_fr ef3 n4).trans ((hGhIy2 k n3)))))), trivial⟩
            · skip
              refine pe_iconstv (n := 1) (v := 1) (by decide +kernel) (by decide +kernel) ?_
              refine pe_iret (by decide +kernel) rfl rfl ⟨rfl, rfl, ?_⟩
              show pmE pg X pg_tyl pg_cl (d + 2) 201 159 [.ref 147, .int v8, .int y46] [.int 1, .ref 147] (md wc f44 A) _
              refine mz_put7 (jj := 103) (by decide +kernel) (by decide +kernel) hc hIy45 (fun f182 ef182 hIf182 => ?_)
              refine pe_aload_n (j := 0) (by decide +kernel) rfl ?_
              refine pe_aload_n (j := 0) (by decide +kernel) rfl ?_
              refine pe_get (j := 103) (ci := 12) (n := 7) (by decide +kernel) (by decide +kernel) (md_o hc) rfl ?_
              refine pe_top (v := 1) (upf_at ef182) ?_
              refine pe_bipushv (n := 99) (v := 99) (by decide +kernel) (by decide +kernel) ?_
              refine pz_icmp_ne (off := 7) (t := 176) (by decide +kernel) (by decide) rfl kz_1 kz_99 (fun h183 => ?_) (fun h183 => by omega)
              refine pe_iconstv (n := 3) (v := 3) (by decide +kernel) (by decide +kernel) ?_
              refine mz_put5 (jj := 93) (by decide +kernel) (by decide +kernel) hc hIf182 (by decide +kernel) (by decide +kernel) (fun f184 ef184 hIf184 => ?_)
              refine pe_goto (off := 128) (t := 308) (by decide +kernel) (by decide) rfl ?_
              exact pe_vret (by decide +kernel) rfl ⟨f184, rfl, hIf184, (fun k n3 n4 n5 n6 n7 => (upf_fr ef184 n5).trans ((upf_fr ef182 n7).trans (((hGhIy45 k n3)).trans ((upf_fr ef3 n4).trans ((hGhIy2 k n3)))))), trivial⟩
          · skip
            clear hz47
            refine pe_bipushv (n := 99) (v := 99) (by decide +kernel) (by decide +kernel) ?_
            refine pe_goto (off := 7) (t := 159) (by decide +kernel) (by decide) rfl ?_
            refine mz_put7 (jj := 103) (by decide +kernel) (by decide +kernel) hc hIy45 (fun f185 ef185 hIf185 => ?_)
            refine pe_aload_n (j := 0) (by decide +kernel) rfl ?_
            refine pe_aload_n (j := 0) (by decide +kernel) rfl ?_
            refine pe_get (j := 103) (ci := 12) (n := 7) (by decide +kernel) (by decide +kernel) (md_o hc) rfl ?_
            refine pe_top (v := 99) (upf_at ef185) ?_
            refine pe_bipushv (n := 99) (v := 99) (by decide +kernel) (by decide +kernel) ?_
            refine pz_icmp_ne (off := 7) (t := 176) (by decide +kernel) (by decide) rfl kz_99 kz_99 (fun h186 => by omega) (fun h186 => ?_)
            refine pe_iconstv (n := 4) (v := 4) (by decide +kernel) (by decide +kernel) ?_
            refine pe_goto (off := 4) (t := 177) (by decide +kernel) (by decide) rfl ?_
            refine mz_put5 (jj := 93) (by decide +kernel) (by decide +kernel) hc hIf185 (by decide +kernel) (by decide +kernel) (fun f187 ef187 hIf187 => ?_)
            refine pe_goto (off := 128) (t := 308) (by decide +kernel) (by decide) rfl ?_
            exact pe_vret (by decide +kernel) rfl ⟨f187, rfl, hIf187, (fun k n3 n4 n5 n6 n7 => (upf_fr ef187 n5).trans ((upf_fr ef185 n7).trans (((hGhIy45 k n3)).trans ((upf_fr ef3 n4).trans ((hGhIy2 k n3)))))), trivial⟩
    · skip
      refine pe_aload_n (j := 0) (by decide +kernel) rfl ?_
      refine pe_iconstv (n := 0) (v := 0) (by decide +kernel) (by decide +kernel) ?_
      refine mz_put5 (jj := 93) (by decide +kernel) (by decide +kernel) hc hIf3 (by decide +kernel) (by decide +kernel) (fun f188 ef188 hIf188 => ?_)
      refine pe_goto (off := 243) (t := 308) (by decide +kernel) (by decide) rfl ?_
      exact pe_vret (by decide +kernel) rfl ⟨f188, rfl, hIf188, (fun k n3 n4 n5 n6 n7 => (upf_fr ef188 n5).trans ((upf_fr ef3 n4).trans ((hGhIy2 k n3)))), trivial⟩
