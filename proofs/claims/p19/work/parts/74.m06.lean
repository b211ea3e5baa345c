set_option maxRecDepth 100000 in
set_option maxHeartbeats 8000000 in
theorem MM_303 {X : pm_X} {d : Nat} {wc : pm_W} {f : Nat → Int32} {A : Nat → List Int32} {x1 : Int32} (hc : wc.length = 147) (hI : MI f A) (gx1 : (100 ≤ x1.toInt ∧ x1.toInt ≤ 100)) : pmE pg X pg_tyl pg_cl (d) 303 0 (pm_ent (pm_max pg 303) [.ref 147, .int x1]) [] (md wc f A) (fun q => ∃ (f' : Nat → Int32) (r : Int32), q = (some (.int r), md wc f' A, 0, 0) ∧ MI f' A ∧ (∀ k : Nat, k ≠ 33 → f' k = f k) ∧ (((0 ≤ r.toInt ∧ r.toInt ≤ 99) ∧ True))) := by
  show pmE pg X pg_tyl pg_cl (d) 303 0 [.ref 147, .int x1] [] (md wc f A) _
  refine pe_aload_n (j := 0) (by decide +kernel) rfl ?_
  refine pe_aload_n (j := 0) (by decide +kernel) rfl ?_
  refine pe_get (j := 364) (ci := 12) (n := 33) (by decide +kernel) (by decide +kernel) (md_o hc) rfl ?_
  refine pe_ldc_w (j := 367) (v := 1103515245) (by decide +kernel) (by decide +kernel) ?_
  refine pw_mul (by decide +kernel) (fun z1 => ?_)
  refine pe_sipushv (n := 12345) (v := 12345) (by decide +kernel) (by decide +kernel) ?_
  refine pw_add (by decide +kernel) (fun z2 => ?_)
  refine mz_put33 (jj := 364) (by decide +kernel) (by decide +kernel) hc hI (fun f3 ef3 hIf3 => ?_)
  refine pe_aload_n (j := 0) (by decide +kernel) rfl ?_
  refine pe_get (j := 364) (ci := 12) (n := 33) (by decide +kernel) (by decide +kernel) (md_o hc) rfl ?_
  refine pe_top (v := z2) (upf_at ef3) ?_
  refine pe_bipushv (n := 16) (v := 16) (by decide +kernel) (by decide +kernel) ?_
  refine pz_ushr16 (by decide +kernel) (fun z4 hz4 => ?_)
  refine pe_iload_n (j := 1) (by decide +kernel) rfl ?_
  refine pz_rem (by decide +kernel) rfl rfl (by omega) (by omega) (fun z5 hz5 gz5 kz5 => ?_)
  clear hz5
  exact pe_iret (by decide +kernel) rfl rfl ⟨f3, z5, rfl, hIf3, (fun k n33 => upf_fr ef3 n33), ⟨(by omega), trivial⟩⟩
set_option maxRecDepth 100000 in
set_option maxHeartbeats 8000000 in
theorem ML_201_195 {X : pm_X} {d : Nat} {wc : pm_W} {Q : pm_R → Prop} {A : Nat → List Int32} {f0 : Nat → Int32} {x1 : Int32} (hc : wc.length = 147) (gx1 : (48 ≤ x1.toInt ∧ x1.toInt ≤ 57)) (k_258_0 : ∀ (f' : Nat → Int32), MI f' A → (∀ k : Nat, k ≠ 3 → k ≠ 6 → f' k = f0 k) → ((f0 3).toInt + (-1) * (f' 3).toInt) ≤ 0 → pmE pg X pg_tyl pg_cl (d + 2) 201 258 [.ref 147, .int x1, pm_dead] [] (md wc f' A) Q) : ∀ (m : Nat) (f : Nat → Int32), MI f A → (∀ k : Nat, k ≠ 3 → k ≠ 6 → f k = f0 k) → ((f0 3).toInt + (-1) * (f 3).toInt) ≤ 0 → 600 - (f 3).toInt < (m : Int) → pmE pg X pg_tyl pg_cl (d + 2) 201 195 [.ref 147, .int x1, pm_dead] [] (md wc f A) Q := by
  intro m
  induction m with
  | zero =>
    intro f hI hG hxi0 hm
    exfalso
    have h := hI.1 3
    simp only [MF] at h
    omega
  | succ m ih =>
    intro f hI hG hxi0 hm
    have hr_3_f := hI.1 3
    simp only [MF] at hr_3_f
    refine pe_aload_n (j := 0) (by decide +kernel) rfl ?_
    refine pe_aload_n (j := 0) (by decide +kernel) rfl ?_
    refine pe_get (j := 83) (ci := 12) (n := 3) (by decide +kernel) (by decide +kernel) (md_o hc) rfl ?_
    refine pi_V (j := 86) (mj := 202) (by decide +kernel) (cll_V (args := [.int (f 3)]) (n := 1) (by decide +kernel) rfl rfl (md_o hc) (by decide +kernel) (Nat.le_of_ble_eq_true rfl) (Nat.le_of_ble_eq_true rfl)) ?_
    show pmE pg X pg_tyl pg_cl (d + 1) 202 0 [.ref 147, .int (f 3)] [] (md wc f A) _
    refine pe_iload_n (j := 1) (by decide +kernel) rfl ?_
    refine pe_aload_n (j := 0) (by decide +kernel) rfl ?_
    refine pe_get (j := 75) (ci := 12) (n := 2) (by decide +kernel) (by decide +kernel) (md_o hc) rfl ?_
    have hr_2_f := hI.1 2
    simp only [MF] at hr_2_f
    refine pz_icmp_ge (off := 15) (t := 20) (by decide +kernel) (by decide) rfl rfl rfl (fun h1 => ?_) (fun h1 => ?_)
    · skip
      refine pe_iconstv (n := (-1)) (v := (-1)) (by decide +kernel) (by decide +kernel) ?_
      refine pe_iret (by decide +kernel) rfl rfl ⟨rfl, rfl, ?_⟩
      show pmE pg X pg_tyl pg_cl (d + 2) 201 203 [.ref 147, .int x1, pm_dead] [.int (-1)] (md wc f A) _
      refine pi_S (j := 106) (mj := 206) (by decide +kernel) (by decide +kernel) rfl ?_
      show pmE pg X pg_tyl pg_cl (d + 1) 206 0 [.int (-1)] [] (md wc f A) _
      refine pe_iload_n (j := 0) (by decide +kernel) rfl ?_
      refine pe_bipushv (n := 48) (v := 48) (by decide +kernel) (by decide +kernel) ?_
      refine pz_icmp_lt (off := 13) (t := 16) (by decide +kernel) (by decide) rfl kz_m1 kz_48 (fun h2 => ?_) (fun h2 => by omega)
      refine pe_iconstv (n := 0) (v := 0) (by decide +kernel) (by decide +kernel) ?_
      refine pe_iret (by decide +kernel) rfl rfl ⟨rfl, rfl, ?_⟩
      show pmE pg X pg_tyl pg_cl (d + 2) 201 206 [.ref 147, .int x1, pm_dead] [.int 0] (md wc f A) _
      refine pz_if_eq (off := 52) (t := 258) (by decide +kernel) (by decide) rfl kz_0 (fun h3 => ?_) (fun h3 => by omega)
      exact k_258_0 f hI (fun k n3 n6 => (hG k n3 n6)) (by omega)
    · skip
      refine pe_aload_n (j := 0) (by decide +kernel) rfl ?_
      refine pe_get (j := 7) (ci := 12) (n := 0) (by decide +kernel) (by decide +kernel) (md_o hc) rfl ?_
      refine pe_bipushv (n := 10) (v := 10) (by decide +kernel) (by decide +kernel) ?_
      refine pe_iload_n (j := 1) (by decide +kernel) rfl ?_
      refine pz_add (by decide +kernel) kz_10 rfl (by omega) (by omega) (fun z4 hz4 => ?_)
      refine mz_ld148 (by decide +kernel) hc hI hz4 (by omega) (by omega) (fun v5 ev5 pv5 => ?_)
      clear pv5
      clear hz4
      refine pe_goto (off := 4) (t := 21) (by decide +kernel) (by decide) rfl ?_
      refine pe_iret (by decide +kernel) rfl rfl ⟨rfl, rfl, ?_⟩
      show pmE pg X pg_tyl pg_cl (d + 2) 201 203 [.ref 147, .int x1, pm_dead] [.int v5] (md wc f A) _
      refine pi_S (j := 106) (mj := 206) (by decide +kernel) (by decide +kernel) rfl ?_
      show pmE pg X pg_tyl pg_cl (d + 1) 206 0 [.int v5] [] (md wc f A) _
      refine pe_iload_n (j := 0) (by decide +kernel) rfl ?_
      refine pe_bipushv (n := 48) (v := 48) (by decide +kernel) (by decide +kernel) ?_
      have lw7 := zi_lo v5
      have uw7 := zi_hi v5
      refine pz_icmp_lt (off := 13) (t := 16) (by decide +kernel) (by decide) rfl rfl kz_48 (fun h6 => ?_) (fun h6 => ?_)
      · skip
        refine pe_iconstv (n := 0) (v := 0) (by decide +kernel) (by decide +kernel) ?_
        refine pe_iret (by decide +kernel) rfl rfl ⟨rfl, rfl, ?_⟩
        show pmE pg X pg_tyl pg_cl (d + 2) 201 206 [.ref 147, .int x1, pm_dead] [.int 0] (md wc f A) _
        refine pz_if_eq (off := 52) (t := 258) (by decide +kernel) (by decide) rfl kz_0 (fun h8 => ?_) (fun h8 => by omega)
        exact k_258_0 f hI (fun k n3 n6 => (hG k n3 n6)) (by omega)
      · skip
        refine pe_iload_n (j := 0) (by decide +kernel) rfl ?_
        refine pe_bipushv (n := 57) (v := 57) (by decide +kernel) (by decide +kernel) ?_
        refine pz_icmp_gt (off := 7) (t := 16) (by decide +kernel) (by decide) rfl rfl kz_57 (fun h9 => ?_) (fun h9 => ?_)
        · skip
          refine pe_iconstv (n := 0) (v := 0) (by decide +kernel) (by decide +kernel) ?_
          refine pe_iret (by decide +kernel) rfl rfl ⟨rfl, rfl, ?_⟩
          show pmE pg X pg_tyl pg_cl (d + 2) 201 206 [.ref 147, .int x1, pm_dead] [.int 0] (md wc f A) _
          refine pz_if_eq (off := 52) (t := 258) (by decide +kernel) (by decide) rfl kz_0 (fun h10 => ?_) (fun h10 => by omega)
          exact k_258_0 f hI (fun k n3 n6 => (hG k n3 n6)) (by omega)
        · skip
          refine pe_iconstv (n := 1) (v := 1) (by decide +kernel) (by decide +kernel) ?_
          refine pe_goto (off := 4) (t := 17) (by decide +kernel) (by decide) rfl ?_
          refine pe_iret (by decide +kernel) rfl rfl ⟨rfl, rfl, ?_⟩
          show pmE pg X pg_tyl pg_cl (d + 2) 201 206 [.ref 147, .int x1, pm_dead] [.int 1] (md wc f A) _
          refine pz_if_eq (off := 52) (t := 258) (by decide +kernel) (by decide) rfl kz_1 (fun h11 => by omega) (fun h11 => ?_)
          refine pe_aload_n (j := 0) (by decide +kernel) rfl ?_
          refine pe_get (j := 83) (ci := 12) (n := 3) (by decide +kernel) (by decide +kernel) (md_o hc) rfl ?_
          refine pe_aload_n (j := 0) (by decide +kernel) rfl ?_
          refine pe_get (j := 90) (ci := 12) (n := 4) (by decide +kernel) (by decide +kernel) (md_o hc) rfl ?_
          refine pw_sub (by decide +kernel) (fun z12 => ?_)
          refine pe_iconstv (n := 2) (v := 2) (by decide +kernel) (by decide +kernel) ?_
          have lw14 := zi_lo z12
          have uw14 := zi_hi z12
          refine pz_icmp_ge (off := 26) (t := 245) (by decide +kernel) (by decide) rfl rfl kz_2 (fun h13 => ?_) (fun h13 => ?_)
          · skip
            refine pe_aload_n (j := 0) (by decide +kernel) rfl ?_
            refine pe_dup (by decide +kernel) rfl ?_
            refine pe_get (j := 83) (ci := 12) (n := 3) (by decide +kernel) (by decide +kernel) (md_o hc) rfl ?_
            refine pe_iconstv (n := 1) (v := 1) (by decide +kernel) (by decide +kernel) ?_
            refine pz_add (by decide +kernel) rfl kz_1 (by omega) (by omega) (fun z15 hz15 => ?_)
            refine mz_put3 (jj := 83) (by decide +kernel) (by decide +kernel) hc hI (by omega) (by omega) (fun f16 ef16 hIf16 => ?_)
            refine pe_goto (off := (-60)) (t := 195) (by decide +kernel) (by decide) rfl ?_
            have hn_f16 : (f16 3).toInt = ((f 3).toInt + 1) := (congrArg Int32.toInt (show f16 3 = z15 from upf_at ef16)).trans hz15
            have hx17 : (f16 3).toInt = ((f 3).toInt + 1) := (congrArg Int32.toInt (show f16 3 = z15 from upf_at ef16)).trans hz15
            exact ih f16 hIf16 (fun k n3 n6 => (upf_fr ef16 n3).trans ((hG k n3 n6))) (by omega) (by omega)
          · skip
            refine pe_aload_n (j := 0) (by decide +kernel) rfl ?_
            refine pe_bipushv (n := 10) (v := 10) (by decide +kernel) (by decide +kernel) ?_
            refine pe_aload_n (j := 0) (by decide +kernel) rfl ?_
            refine pe_get (j := 109) (ci := 12) (n := 6) (by decide +kernel) (by decide +kernel) (md_o hc) rfl ?_
            refine pw_mul (by decide +kernel) (fun z18 => ?_)
            refine pe_aload_n (j := 0) (by decide +kernel) rfl ?_
            refine pe_aload_n (j := 0) (by decide +kernel) rfl ?_
            refine pe_get (j := 83) (ci := 12) (n := 3) (by decide +kernel) (by decide +kernel) (md_o hc) rfl ?_
            refine pi_V (j := 86) (mj := 202) (by decide +kernel) (cll_V (args := [.int (f 3)]) (n := 1) (by decide +kernel) rfl rfl (md_o hc) (by decide +kernel) (Nat.le_of_ble_eq_true rfl) (Nat.le_of_ble_eq_true rfl)) ?_
            show pmE pg X pg_tyl pg_cl (d + 1) 202 0 [.ref 147, .int (f 3)] [] (md wc f A) _
            refine pe_iload_n (j := 1) (by decide +kernel) rfl ?_
            refine pe_aload_n (j := 0) (by decide +kernel) rfl ?_
            refine pe_get (j := 75) (ci := 12) (n := 2) (by decide +kernel) (by decide +kernel) (md_o hc) rfl ?_
            refine pz_icmp_ge (off := 15) (t := 20) (by decide +kernel) (by decide) rfl rfl rfl (fun h19 => ?_) (fun h19 => ?_)
            · skip
              refine pe_iconstv (n := (-1)) (v := (-1)) (by decide +kernel) (by decide +kernel) ?_
              refine pe_iret (by decide +kernel) rfl rfl ⟨rfl, rfl, ?_⟩
              show pmE pg X pg_tyl pg_cl (d + 2) 201 238 [.ref 147, .int x1, pm_dead] [.int (-1), .int z18, .ref 147] (md wc f A) _
              refine pw_add (by decide +kernel) (fun z20 => ?_)
              refine pe_bipushv (n := 48) (v := 48) (by decide +kernel) (by decide +kernel) ?_
              refine pw_sub (by decide +kernel) (fun z21 => ?_)
              refine mz_put6 (jj := 109) (by decide +kernel) (by decide +kernel) hc hI (fun f22 ef22 hIf22 => ?_)
              refine pe_aload_n (j := 0) (by decide +kernel) rfl ?_
              refine pe_dup (by decide +kernel) rfl ?_
              refine pe_get (j := 83) (ci := 12) (n := 3) (by decide +kernel) (by decide +kernel) (md_o hc) rfl ?_
              refine pe_top (v := (f 3)) (upf_fr ef22 (by decide)) ?_
              refine pe_iconstv (n := 1) (v := 1) (by decide +kernel) (by decide +kernel) ?_
              refine pz_add (by decide +kernel) rfl kz_1 (by omega) (by omega) (fun z23 hz23 => ?_)
              refine mz_put3 (jj := 83) (by decide +kernel) (by decide +kernel) hc hIf22 (by omega) (by omega) (fun f24 ef24 hIf24 => ?_)
              refine pe_goto (off := (-60)) (t := 195) (by decide +kernel) (by decide) rfl ?_
              have hn_f24 : (f24 3).toInt = ((f 3).toInt + 1) := (congrArg Int32.toInt (show f24 3 = z23 from upf_at ef24)).trans hz23
              have hx25 : (f24 3).toInt = ((f 3).toInt + 1) := (congrArg Int32.toInt (show f24 3 = z23 from upf_at ef24)).trans hz23
              exact ih f24 hIf24 (fun k n3 n6 => (upf_fr ef24 n3).trans ((upf_fr ef22 n6).trans ((hG k n3 n6)))) (by omega) (by omega)
            · skip
              refine pe_aload_n (j := 0) (by decide +kernel) rfl ?_
              refine pe_get (j := 7) (ci := 12) (n := 0) (by decide +kernel) (by decide +kernel) (md_o hc) rfl ?_
              refine pe_bipushv (n := 10) (v := 10) (by decide +kernel) (by decide +kernel) ?_
              refine pe_iload_n (j := 1) (by decide +kernel) rfl ?_
              refine pz_add (by decide +kernel) kz_10 rfl (by omega) (by omega) (fun z26 hz26 => ?_)
              refine mz_ld148 (by decide +kernel) hc hI hz26 (by omega) (by omega) (fun v27 ev27 pv27 => ?_)
              rw [ev27.trans ev5.symm]
              clear pv27 ev27 v27
              clear hz26
              refine pe_goto (off := 4) (t := 21) (by decide +kernel) (by decide) rfl ?_
              refine pe_iret (by decide +kernel) rfl rfl ⟨rfl, rfl, ?_⟩
              show pmE pg X pg_tyl pg_cl (d + 2) 201 238 [.ref 147, .int x1, pm_dead] [.int v5, .int z18, .ref 147] (md wc f A) _
              refine pw_add (by decide +kernel) (fun z28 => ?_)
              refine pe_bipushv (n := 48) (v := 48) (by decide +kernel) (by decide +kernel) ?_
              refine pw_sub (by decide +kernel) (fun z29 => ?_)
              refine mz_put6 (jj := 109) (by decide +kernel) (by decide +kernel) hc hI (fun f30 ef30 hIf30 => ?_)
              refine pe_aload_n (j := 0) (by decide +kernel) rfl ?_
              refine pe_dup (by decide +kernel) rfl ?_
              refine pe_get (j := 83) (ci := 12) (n := 3) (by decide +kernel) (by decide +kernel) (md_o hc) rfl ?_
              refine pe_top (v := (f 3)) (upf_fr ef30 (by decide)) ?_
              refine pe_iconstv (n := 1) (v := 1) (by decide +kernel) (by decide +kernel) ?_
              refine pz_add (by decide +kernel) rfl kz_1 (by omega) (by omega) (fun z31 hz31 => ?_)
              refine mz_put3 (jj := 83) (by decide +kernel) (by decide +kernel) hc hIf30 (by omega) (by omega) (fun f32 ef32 hIf32 => ?_)
              refine pe_goto (off := (-60)) (t := 195) (by decide +kernel) (by decide) rfl ?_
              have hn_f32 : (f32 3).toInt = ((f 3).toInt + 1) := (congrArg Int32.toInt (show f32 3 = z31 from upf_at ef32)).trans hz31
              have hx33 : (f32 3).toInt = ((f 3).toInt + 1) := (congrArg Int32.toInt (show f32 3 = z31 from upf_at ef32)).trans hz31
              exact ih f32 hIf32 (fun k n3 n6 => (upf_fr ef32 n3).trans ((upf_fr ef30 n6).trans ((hG k n3 n6)))) (by omega) (by omega)
set_option maxRecDepth 100000 in
set_option maxHeartbeats 8000000 in
theorem ML_201_77 {X : pm_X} {d : Nat} {wc : pm_W} {Q : pm_R → Prop} {A : Nat → List Int32} {f0 : Nat → Int32} {x1 : Int32} (hc : wc.length = 147) (gx1 : (97 ≤ x1.toInt ∧ x1.toInt ≤ 122)) (k_135_0 : ∀ (f' : Nat → Int32) (y2 : Int32), MI f' A → (∀ k : Nat, k ≠ 3 → f' k = f0 k) → ((f0 3).toInt + (-1) * (f' 3).toInt) ≤ 0 → pmE pg X pg_tyl pg_cl (d + 2) 201 135 [.ref 147, .int x1, .int y2] [] (md wc f' A) Q) : ∀ (m : Nat) (f : Nat → Int32) (x2 : Int32), MI f A → (∀ k : Nat, k ≠ 3 → f k = f0 k) → ((f0 3).toInt + (-1) * (f 3).toInt) ≤ 0 → 600 - (f 3).toInt < (m : Int) → pmE pg X pg_tyl pg_cl (d + 2) 201 77 [.ref 147, .int x1, .int x2] [] (md wc f A) Q := by
  intro m
  induction m with
  | zero =>
    intro f x2 hI hG hxi0 hm
    exfalso
    have h := hI.1 3
    simp only [MF] at h
    omega
  | succ m ih =>
    intro f x2 hI hG hxi0 hm
    have hr_3_f := hI.1 3
    simp only [MF] at hr_3_f
    refine pe_aload_n (j := 0) (by decide +kernel) rfl ?_
    refine pe_aload_n (j := 0) (by decide +kernel) rfl ?_
    refine pe_get (j := 83) (ci := 12) (n := 3) (by decide +kernel) (by decide +kernel) (md_o hc) rfl ?_
    refine pi_V (j := 86) (mj := 202) (by decide +kernel) (cll_V (args := [.int (f 3)]) (n := 1) (by decide +kernel) rfl rfl (md_o hc) (by decide +kernel) (Nat.le_of_ble_eq_true rfl) (Nat.le_of_ble_eq_true rfl)) ?_
    show pmE pg X pg_tyl pg_cl (d + 1) 202 0 [.ref 147, .int (f 3)] [] (md wc f A) _
    refine pe_iload_n (j := 1) (by decide +kernel) rfl ?_
    refine pe_aload_n (j := 0) (by decide +kernel) rfl ?_
    refine pe_get (j := 75) (ci := 12) (n := 2) (by decide +kernel) (by decide +kernel) (md_o hc) rfl ?_
    have hr_2_f := hI.1 2
    simp only [MF] at hr_2_f
    refine pz_icmp_ge (off := 15) (t := 20) (by decide +kernel) (by decide) rfl rfl rfl (fun h1 => ?_) (fun h1 => ?_)
    · skip
      refine pe_iconstv (n := (-1)) (v := (-1)) (by decide +kernel) (by decide +kernel) ?_
      refine pe_iret (by decide +kernel) rfl rfl ⟨rfl, rfl, ?_⟩
      show pmE pg X pg_tyl pg_cl (d + 2) 201 85 [.ref 147, .int x1, .int x2] [.int (-1)] (md wc f A) _
      refine pi_S (j := 96) (mj := 203) (by decide +kernel) (by decide +kernel) rfl ?_
      show pmE pg X pg_tyl pg_cl (d + 1) 203 0 [.int (-1)] [] (md wc f A) _
      refine pe_iload_n (j := 0) (by decide +kernel) rfl ?_
      refine pe_bipushv (n := 97) (v := 97) (by decide +kernel) (by decide +kernel) ?_
      refine pz_icmp_lt (off := 13) (t := 16) (by decide +kernel) (by decide) rfl kz_m1 kz_97 (fun h2 => ?_) (fun h2 => by omega)
      refine pe_iconstv (n := 0) (v := 0) (by decide +kernel) (by decide +kernel) ?_
      refine pe_iret (by decide +kernel) rfl rfl ⟨rfl, rfl, ?_⟩
      show pmE pg X pg_tyl pg_cl (d + 2) 201 88 [.ref 147, .int x1, .int x2] [.int 0] (md wc f A) _
      refine pz_if_eq (off := 47) (t := 135) (by decide +kernel) (by decide) rfl kz_0 (fun h3 => ?_) (fun h3 => by omega)
      exact k_135_0 f x2 hI (fun k n3 => (hG k n3)) (by omega)
    · skip
      refine pe_aload_n (j := 0) (by decide +kernel) rfl ?_
      refine pe_get (j := 7) (ci := 12) (n := 0) (by decide +kernel) (by decide +kernel) (md_o hc) rfl ?_
      refine pe_bipushv (n := 10) (v := 10) (by decide +kernel) (by decide +kernel) ?_
      refine pe_iload_n (j := 1) (by decide +kernel) rfl ?_
      refine pz_add (by decide +kernel) kz_10 rfl (by omega) (by omega) (fun z4 hz4 => ?_)
      refine mz_ld148 (by decide +kernel) hc hI hz4 (by omega) (by omega) (fun v5 ev5 pv5 => ?_)
      clear pv5
      clear hz4
      refine pe_goto (off := 4) (t := 21) (by decide +kernel) (by decide) rfl ?_
      refine pe_iret (by decide +kernel) rfl rfl ⟨rfl, rfl, ?_⟩
      show pmE pg X pg_tyl pg_cl (d + 2) 201 85 [.ref 147, .int x1, .int x2] [.int v5] (md wc f A) _
      refine pi_S (j := 96) (mj := 203) (by decide +kernel) (by decide +kernel) rfl ?_
      show pmE pg X pg_tyl pg_cl (d + 1) 203 0 [.int v5] [] (md wc f A) _
      refine pe_iload_n (j := 0) (by decide +kernel) rfl ?_
      refine pe_bipushv (n := 97) (v := 97) (by decide +kernel) (by decide +kernel) ?_
      have lw7 := zi_lo v5
      have uw7 := zi_hi v5
      refine pz_icmp_lt (off := 13) (t := 16) (by decide +kernel) (by decide) rfl rfl kz_97 (fun h6 => ?_) (fun h6 => ?_)
      · skip
        refine pe_iconstv (n := 0) (v := 0) (by decide +kernel) (by decide +kernel) ?_
        refine pe_iret (by decide +kernel) rfl rfl ⟨rfl, rfl, ?_⟩
        show pmE pg X pg_tyl pg_cl (d + 2) 201 88 [.ref 147, .int x1, .int x2] [.int 0] (md wc f A) _
        refine pz_if_eq (off := 47) (t := 135) (by decide +kernel) (by decide) rfl kz_0 (fun h8 => ?_) (fun h8 => by omega)
        exact k_135_0 f x2 hI (fun k n3 => (hG k n3)) (by omega)
      · skip
        refine pe_iload_n (j := 0) (by decide +kernel) rfl ?_
        refine pe_bipushv (n := 122) (v := 122) (by decide +kernel) (by decide +kernel) ?_
        refine pz_icmp_gt (off := 7) (t := 16) (by decide +kernel) (by decide) rfl rfl kz_122 (fun h9 => ?_) (fun h9 => ?_)
        · skip
          refine pe_iconstv (n := 0) (v := 0) (by decide +kernel) (by decide +kernel) ?_
          refine pe_iret (by decide +kernel) rfl rfl ⟨rfl, rfl, ?_⟩
          show pmE pg X pg_tyl pg_cl (d + 2) 201 88 [.ref 147, .int x1, .int x2] [.int 0] (md wc f A) _
          refine pz_if_eq (off := 47) (t := 135) (by decide +kernel) (by decide) rfl kz_0 (fun h10 => ?_) (fun h10 => by omega)
          exact k_135_0 f x2 hI (fun k n3 => (hG k n3)) (by omega)
        · skip
          refine pe_iconstv (n := 1) (v := 1) (by decide +kernel) (by decide +kernel) ?_
          refine pe_goto (off := 4) (t := 17) (by decide +kernel) (by decide) rfl ?_
          refine pe_iret (by decide +kernel) rfl rfl ⟨rfl, rfl, ?_⟩
          show pmE pg X pg_tyl pg_cl (d + 2) 201 88 [.ref 147, .int x1, .int x2] [.int 1] (md wc f A) _
          refine pz_if_eq (off := 47) (t := 135) (by decide +kernel) (by decide) rfl kz_1 (fun h11 => by omega) (fun h11 => ?_)
          refine pe_aload_n (j := 0) (by decide +kernel) rfl ?_
          refine pe_get (j := 83) (ci := 12) (n := 3) (by decide +kernel) (by decide +kernel) (md_o hc) rfl ?_
          refine pe_aload_n (j := 0) (by decide +kernel) rfl ?_
          refine pe_get (j := 90) (ci := 12) (n := 4) (by decide +kernel) (by decide +kernel) (md_o hc) rfl ?_
          refine pw_sub (by decide +kernel) (fun z12 => ?_)
          refine pe_bipushv (n := 6) (v := 6) (by decide +kernel) (by decide +kernel) ?_
          have lw14 := zi_lo z12
          have uw14 := zi_hi z12
          refine pz_icmp_ge (off := 20) (t := 122) (by decide +kernel) (by decide) rfl rfl kz_6 (fun h13 => ?_) (fun h13 => ?_)
          · skip
            refine pe_aload_n (j := 0) (by decide +kernel) rfl ?_
            refine pe_dup (by decide +kernel) rfl ?_
            refine pe_get (j := 83) (ci := 12) (n := 3) (by decide +kernel) (by decide +kernel) (md_o hc) rfl ?_
            refine pe_iconstv (n := 1) (v := 1) (by decide +kernel) (by decide +kernel) ?_
            refine pz_add (by decide +kernel) rfl kz_1 (by omega) (by omega) (fun z15 hz15 => ?_)
            refine mz_put3 (jj := 83) (by decide +kernel) (by decide +kernel) hc hI (by omega) (by omega) (fun f16 ef16 hIf16 => ?_)
            refine pe_goto (off := (-55)) (t := 77) (by decide +kernel) (by decide) rfl ?_
            have hn_f16 : (f16 3).toInt = ((f 3).toInt + 1) := (congrArg Int32.toInt (show f16 3 = z15 from upf_at ef16)).trans hz15
            have hx17 : (f16 3).toInt = ((f 3).toInt + 1) := (congrArg Int32.toInt (show f16 3 = z15 from upf_at ef16)).trans hz15
            exact ih f16 x2 hIf16 (fun k n3 => (upf_fr ef16 n3).trans ((hG k n3))) (by omega) (by omega)
          · skip
            refine pe_bipushv (n := 32) (v := 32) (by decide +kernel) (by decide +kernel) ?_
            refine pe_iload_n (j := 2) (by decide +kernel) rfl ?_
            refine pw_mul (by decide +kernel) (fun z18 => ?_)
            refine pe_aload_n (j := 0) (by decide +kernel) rfl ?_
            refine pe_aload_n (j := 0) (by decide +kernel) rfl ?_
            refine pe_get (j := 83) (ci := 12) (n := 3) (by decide +kernel) (by decide +kernel) (md_o hc) rfl ?_
            refine pi_V (j := 86) (mj := 202) (by decide +kernel) (cll_V (args := [.int (f 3)]) (n := 1) (by decide +kernel) rfl rfl (md_o hc) (by decide +kernel) (Nat.le_of_ble_eq_true rfl) (Nat.le_of_ble_eq_true rfl)) ?_
            show pmE pg X pg_tyl pg_cl (d + 1) 202 0 [.ref 147, .int (f 3)] [] (md wc f A) _
            refine pe_iload_n (j := 1) (by decide +kernel) rfl ?_
            refine pe_aload_n (j := 0) (by decide +kernel) rfl ?_
            refine pe_get (j := 75) (ci := 12) (n := 2) (by decide +kernel) (by decide +kernel) (md_o hc) rfl ?_
            refine pz_icmp_ge (off := 15) (t := 20) (by decide +kernel) (by decide) rfl rfl rfl (fun h19 => ?_) (fun h19 => ?_)
            · skip
              refine pe_iconstv (n := (-1)) (v := (-1)) (by decide +kernel) (by decide +kernel) ?_
              refine pe_iret (by decide +kernel) rfl rfl ⟨rfl, rfl, ?_⟩
              show pmE pg X pg_tyl pg_cl (d + 2) 201 117 [.ref 147, .int x1, .int x2] [.int (-1), .int z18] (md wc f A) _
              refine pw_add (by decide +kernel) (fun z20 => ?_)
              refine pe_bipushv (n := 96) (v := 96) (by decide +kernel) (by decide +kernel) ?_
              refine pw_sub (by decide +kernel) (fun z21 => ?_)
              refine pe_istore_n (j := 2) (ls' := [.ref 147, .int x1, .int z21]) (by decide +kernel) (Nat.le_of_ble_eq_true rfl) rfl ?_
              refine pe_aload_n (j := 0) (by decide +kernel) rfl ?_
              refine pe_dup (by decide +kernel) rfl ?_
              refine pe_get (j := 83) (ci := 12) (n := 3) (by decide +kernel) (by decide +kernel) (md_o hc) rfl ?_
              refine pe_iconstv (n := 1) (v := 1) (by decide +kernel) (by decide +kernel) ?_
              refine pz_add (by decide +kernel) rfl kz_1 (by omega) (by omega) (fun z22 hz22 => ?_)
              refine mz_put3 (jj := 83) (by decide +kernel) (by decide +kernel) hc hI (by omega) (by omega) (fun f23 ef23 hIf23 => ?_)
              refine pe_goto (off := (-55)) (t := 77) (by decide +kernel) (by decide) rfl ?_
              have hn_f23 : (f23 3).toInt = ((f 3).toInt + 1) := (congrArg Int32.toInt (show f23 3 = z22 from upf_at ef23)).trans hz22
              have hx24 : (f23 3).toInt = ((f 3).toInt + 1) := (congrArg Int32.toInt (show f23 3 = z22 from upf_at ef23)).trans hz22
              exact ih f23 z21 hIf23 (fun k n3 => (upf_fr ef23 n3).trans ((hG k n3))) (by omega) (by omega)
            · skip
              refine pe_aload_n (j := 0) (by decide +kernel) rfl ?_
              refine pe_get (j := 7) (ci := 12) (n := 0) (by decide +kernel) (by decide +kernel) (md_o hc) rfl ?_
              refine pe_bipushv (n := 10) (v := 10) (by decide +kernel) (by decide +kernel) ?_
              refine pe_iload_n (j := 1) (by decide +kernel) rfl ?_
              refine pz_add (by decide +kernel) kz_10 rfl (by omega) (by omega) (fun z25 hz25 => ?_)
              refine mz_ld148 (by decide +kernel) hc hI hz25 (by omega) (by omega) (fun v26 ev26 pv26 => ?_)
              rw [ev26.trans ev5.symm]
              clear pv26 ev26 v26
              clear hz25
              refine pe_goto (off := 4) (t := 21) (by decide +kernel) (by decide) rfl ?_
              refine pe_iret (by decide +kernel) rfl rfl ⟨rfl, rfl, ?_⟩
              show pmE pg X pg_tyl pg_cl (d + 2) 201 117 [.ref 147, .int x1, .int x2] [.int v5, .int z18] (md wc f A) _
              refine pw_add (by decide +kernel) (fun z27 => ?_)
              refine pe_bipushv (n := 96) (v := 96) (by decide +kernel) (by decide +kernel) ?_
              refine pw_sub (by decide +kernel) (fun z28 => ?_)
              refine pe_istore_n (j := 2) (ls' := [.ref 147, .int x1, .int z28]) (by decide +kernel) (Nat.le_of_ble_eq_true rfl) rfl ?_
              refine pe_aload_n (j := 0) (by decide +kernel) rfl ?_
              refine pe_dup (by decide +kernel) rfl ?_
              refine pe_get (j := 83) (ci := 12) (n := 3) (by decide +kernel) (by decide +kernel) (md_o hc) rfl ?_
              refine pe_iconstv (n := 1) (v := 1) (by decide +kernel) (by decide +kernel) ?_
              refine pz_add (by decide +kernel) rfl kz_1 (by omega) (by omega) (fun z29 hz29 => ?_)
              refine mz_put3 (jj := 83) (by decide +kernel) (by decide +kernel) hc hI (by omega) (by omega) (fun f30 ef30 hIf30 => ?_)
              refine pe_goto (off := (-55)) (t := 77) (by decide +kernel) (by decide) rfl ?_
              have hn_f30 : (f30 3).toInt = ((f 3).toInt + 1) := (congrArg Int32.toInt (show f30 3 = z29 from upf_at ef30)).trans hz29
              have hx31 : (f30 3).toInt = ((f 3).toInt + 1) := (congrArg Int32.toInt (show f30 3 = z29 from upf_at ef30)).trans hz29
              exact ih f30 z28 hIf30 (fun k n3 => (upf_fr ef30 n3).trans ((hG k n3))) (by omega) (by omega)
set_option maxRecDepth 100000 in
set_option maxHeartbeats 8000000 in
theorem ML_201_0 {X : pm_X} {d : Nat} {wc : pm_W} {Q : pm_R → Prop} {A : Nat → List Int32} {f0 : Nat → Int32} (hc : wc.length = 147) (k_39_0 : ∀ (f' : Nat → Int32), MI f' A → (∀ k : Nat, k ≠ 3 → f' k = f0 k) → ((f0 3).toInt + (-1) * (f' 3).toInt) ≤ 0 → pmE pg X pg_tyl pg_cl (d + 2) 201 39 [.ref 147, pm_dead, pm_dead] [] (md wc f' A) Q) : ∀ (m : Nat) (f : Nat → Int32), MI f A → (∀ k : Nat, k ≠ 3 → f k = f0 k) → ((f0 3).toInt + (-1) * (f 3).toInt) ≤ 0 → 600 - (f 3).toInt < (m : Int) → pmE pg X pg_tyl pg_cl (d + 2) 201 0 [.ref 147, pm_dead, pm_dead] [] (md wc f A) Q := by
  intro m
  induction m with
  | zero =>
    intro f hI hG hxi0 hm
    exfalso
    have h := hI.1 3
    simp only [MF] at h
    omega
  | succ m ih =>
    intro f hI hG hxi0 hm
    have hr_3_f := hI.1 3
    simp only [MF] at hr_3_f
    refine pe_aload_n (j := 0) (by decide +kernel) rfl ?_
    refine pe_aload_n (j := 0) (by decide +kernel) rfl ?_
    refine pe_get (j := 83) (ci := 12) (n := 3) (by decide +kernel) (by decide +kernel) (md_o hc) rfl ?_
    refine pi_V (j := 86) (mj := 202) (by decide +kernel) (cll_V (args := [.int (f 3)]) (n := 1) (by decide +kernel) rfl rfl (md_o hc) (by decide +kernel) (Nat.le_of_ble_eq_true rfl) (Nat.le_of_ble_eq_true rfl)) ?_
    show pmE pg X pg_tyl pg_cl (d + 1) 202 0 [.ref 147, .int (f 3)] [] (md wc f A) _
    refine pe_iload_n (j := 1) (by decide +kernel) rfl ?_
    refine pe_aload_n (j := 0) (by decide +kernel) rfl ?_
    refine pe_get (j := 75) (ci := 12) (n := 2) (by decide +kernel) (by decide +kernel) (md_o hc) rfl ?_
    have hr_2_f := hI.1 2
    simp only [MF] at hr_2_f
    refine pz_icmp_ge (off := 15) (t := 20) (by decide +kernel) (by decide) rfl rfl rfl (fun h1 => ?_) (fun h1 => ?_)
    · skip
      refine pe_iconstv (n := (-1)) (v := (-1)) (by decide +kernel) (by decide +kernel) ?_
      refine pe_iret (by decide +kernel) rfl rfl ⟨rfl, rfl, ?_⟩
      show pmE pg X pg_tyl pg_cl (d + 2) 201 8 [.ref 147, pm_dead, pm_dead] [.int (-1)] (md wc f A) _
      refine pe_bipushv (n := 10) (v := 10) (by decide +kernel) (by decide +kernel) ?_
      refine pz_icmp_eq (off := 16) (t := 26) (by decide +kernel) (by decide) rfl kz_m1 kz_10 (fun h2 => by omega) (fun h2 => ?_)
      refine pe_aload_n (j := 0) (by decide +kernel) rfl ?_
      refine pe_aload_n (j := 0) (by decide +kernel) rfl ?_
      refine pe_get (j := 83) (ci := 12) (n := 3) (by decide +kernel) (by decide +kernel) (md_o hc) rfl ?_
      refine pi_V (j := 86) (mj := 202) (by decide +kernel) (cll_V (args := [.int (f 3)]) (n := 1) (by decide +kernel) rfl rfl (md_o hc) (by decide +kernel) (Nat.le_of_ble_eq_true rfl) (Nat.le_of_ble_eq_true rfl)) ?_
      show pmE pg X pg_tyl pg_cl (d + 1) 202 0 [.ref 147, .int (f 3)] [] (md wc f A) _
      refine pe_iload_n (j := 1) (by decide +kernel) rfl ?_
      refine pe_aload_n (j := 0) (by decide +kernel) rfl ?_
      refine pe_get (j := 75) (ci := 12) (n := 2) (by decide +kernel) (by decide +kernel) (md_o hc) rfl ?_
      refine pz_icmp_ge (off := 15) (t := 20) (by decide +kernel) (by decide) rfl rfl rfl (fun h3 => ?_) (fun h3 => ?_)
      · skip
        refine pe_iconstv (n := (-1)) (v := (-1)) (by decide +kernel) (by decide +kernel) ?_
        refine pe_iret (by decide +kernel) rfl rfl ⟨rfl, rfl, ?_⟩
        show pmE pg X pg_tyl pg_cl (d + 2) 201 21 [.ref 147, pm_dead, pm_dead] [.int (-1)] (md wc f A) _
        refine pe_bipushv (n := 32) (v := 32) (by decide +kernel) (by decide +kernel) ?_
        refine pz_icmp_ne (off := 16) (t := 39) (by decide +kernel) (by decide) rfl kz_m1 kz_32 (fun h4 => ?_) (fun h4 => by omega)
        exact k_39_0 f hI (fun k n3 => (hG k n3)) (by omega)
      · skip
        refine pe_aload_n (j := 0) (by decide +kernel) rfl ?_
        refine pe_get (j := 7) (ci := 12) (n := 0) (by decide +kernel) (by decide +kernel) (md_o hc) rfl ?_
        refine pe_bipushv (n := 10) (v := 10) (by decide +kernel) (by decide +kernel) ?_
        refine pe_iload_n (j := 1) (by decide +kernel) rfl ?_
        refine pz_add (by decide +kernel) kz_10 rfl (by omega) (by omega) (fun z5 hz5 => ?_)
        refine mz_ld148 (by decide +kernel) hc hI hz5 (by omega) (by omega) (fun v6 ev6 pv6 => ?_)
        clear pv6
        clear hz5
        refine pe_goto (off := 4) (t := 21) (by decide +kernel) (by decide) rfl ?_
        refine pe_iret (by decide +kernel) rfl rfl ⟨rfl, rfl, ?_⟩
        show pmE pg X pg_tyl pg_cl (d + 2) 201 21 [.ref 147, pm_dead, pm_dead] [.int v6] (md wc f A) _
        refine pe_bipushv (n := 32) (v := 32) (by decide +kernel) (by decide +kernel) ?_
        have lw8 := zi_lo v6
        have uw8 := zi_hi v6
        refine pz_icmp_ne (off := 16) (t := 39) (by decide +kernel) (by decide) rfl rfl kz_32 (fun h7 => ?_) (fun h7 => ?_)
        · skip
          exact k_39_0 f hI (fun k n3 => (hG k n3)) (by omega)
        · skip
          refine pe_aload_n (j := 0) (by decide +kernel) rfl ?_
          refine pe_dup (by decide +kernel) rfl ?_
          refine pe_get (j := 83) (ci := 12) (n := 3) (by decide +kernel) (by decide +kernel) (md_o hc) rfl ?_
          refine pe_iconstv (n := 1) (v := 1) (by decide +kernel) (by decide +kernel) ?_
          refine pz_add (by decide +kernel) rfl kz_1 (by omega) (by omega) (fun z9 hz9 => ?_)
          refine mz_put3 (jj := 83) (by decide +kernel) (by decide +kernel) hc hI (by omega) (by omega) (fun f10 ef10 hIf10 => ?_)
          refine pe_goto (off := (-36)) (t := 0) (by decide +kernel) (by decide) rfl ?_
          have hn_f10 : (f10 3).toInt = ((f 3).toInt + 1) := (congrArg Int32.toInt (show f10 3 = z9 from upf_at ef10)).trans hz9
          have hx11 : (f10 3).toInt = ((f 3).toInt + 1) := (congrArg Int32.toInt (show f10 3 = z9 from upf_at ef10)).trans hz9
          exact ih f10 hIf10 (fun k n3 => (upf_fr ef10 n3).trans ((hG k n3))) (by omega) (by omega)
    · skip
      refine pe_aload_n (j := 0) (by decide +kernel) rfl ?_
      refine pe_get (j := 7) (ci := 12) (n := 0) (by decide +kernel) (by decide +kernel) (md_o hc) rfl ?_
      refine pe_bipushv (n := 10) (v := 10) (by decide +kernel) (by decide +kernel) ?_
      refine pe_iload_n (j := 1) (by decide +kernel) rfl ?_
      refine pz_add (by decide +kernel) kz_10 rfl (by omega) (by omega) (fun z12 hz12 => ?_)
      refine mz_ld148 (by decide +kernel) hc hI hz12 (by omega) (by omega) (fun v13 ev13 pv13 => ?_)
      clear pv13
      clear hz12
      refine pe_goto (off := 4) (t := 21) (by decide +kernel) (by decide) rfl ?_
      refine pe_iret (by decide +kernel) rfl rfl ⟨rfl, rfl, ?_⟩
      show pmE pg X pg_tyl pg_cl (d + 2) 201 8 [.ref 147, pm_dead, pm_dead] [.int v13] (md wc f A) _
      refine pe_bipushv (n := 10) (v := 10) (by decide +kernel) (by decide +kernel) ?_
      have lw15 := zi_lo v13
      have uw15 := zi_hi v13
      refine pz_icmp_eq (off := 16) (t := 26) (by decide +kernel) (by decide) rfl rfl kz_10 (fun h14 => ?_) (fun h14 => ?_)
      · skip
        refine pe_aload_n (j := 0) (by decide +kernel) rfl ?_
        refine pe_dup (by decide +kernel) rfl ?_
        refine pe_get (j := 83) (ci := 12) (n := 3) (by decide +kernel) (by decide +kernel) (md_o hc) rfl ?_
        refine pe_iconstv (n := 1) (v := 1) (by decide +kernel) (by decide +kernel) ?_
        refine pz_add (by decide +kernel) rfl kz_1 (by omega) (by omega) (fun z16 hz16 => ?_)
        refine mz_put3 (jj := 83) (by decide +kernel) (by decide +kernel) hc hI (by omega) (by omega) (fun f17 ef17 hIf17 => ?_)
        refine pe_goto (off := (-36)) (t := 0) (by decide +kernel) (by decide) rfl ?_
        have hn_f17 : (f17 3).toInt = ((f 3).toInt + 1) := (congrArg Int32.toInt (show f17 3 = z16 from upf_at ef17)).trans hz16
        have hx18 : (f17 3).toInt = ((f 3).toInt + 1) := (congrArg Int32.toInt (show f17 3 = z16 from upf_at ef17)).trans hz16
        exact ih f17 hIf17 (fun k n3 => (upf_fr ef17 n3).trans ((hG k n3))) (by omega) (by omega)
      · skip
        refine pe_aload_n (j := 0) (by decide +kernel) rfl ?_
        refine pe_aload_n (j := 0) (by decide +kernel) rfl ?_
        refine pe_get (j := 83) (ci := 12) (n := 3) (by decide +kernel) (by decide +kernel) (md_o hc) rfl ?_
        refine pi_V (j := 86) (mj := 202) (by decide +kernel) (cll_V (args := [.int (f 3)]) (n := 1) (by decide +kernel) rfl rfl (md_o hc) (by decide +kernel) (Nat.le_of_ble_eq_true rfl) (Nat.le_of_ble_eq_true rfl)) ?_
        show pmE pg X pg_tyl pg_cl (d + 1) 202 0 [.ref 147, .int (f 3)] [] (md wc f A) _
        refine pe_iload_n (j := 1) (by decide +kernel) rfl ?_
        refine pe_aload_n (j := 0) (by decide +kernel) rfl ?_
        refine pe_get (j := 75) (ci := 12) (n := 2) (by decide +kernel) (by decide +kernel) (md_o hc) rfl ?_
        refine pz_icmp_ge (off := 15) (t := 20) (by decide +kernel) (by decide) rfl rfl rfl (fun h19 => ?_) (fun h19 => ?_)
        · skip
          refine pe_iconstv (n := (-1)) (v := (-1)) (by decide +kernel) (by decide +kernel) ?_
          refine pe_iret (by decide +kernel) rfl rfl ⟨rfl, rfl, ?_⟩
          show pmE pg X pg_tyl pg_cl (d + 2) 201 21 [.ref 147, pm_dead, pm_dead] [.int (-1)] (md wc f A) _
          refine pe_bipushv (n := 32) (v := 32) (by decide +kernel) (by decide +kernel) ?_
          refine pz_icmp_ne (off := 16) (t := 39) (by decide +kernel) (by decide) rfl kz_m1 kz_32 (fun h20 => ?_) (fun h20 => by omega)
          exact k_39_0 f hI (fun k n3 => (hG k n3)) (by omega)
        · skip
          refine pe_aload_n (j := 0) (by decide +kernel) rfl ?_
          refine pe_get (j := 7) (ci := 12) (n := 0) (by decide +kernel) (by decide +kernel) (md_o hc) rfl ?_
          refine pe_bipushv (n := 10) (v := 10) (by decide +kernel) (by decide +kernel) ?_
          refine pe_iload_n (j := 1) (by decide +kernel) rfl ?_
          refine pz_add (by decide +kernel) kz_10 rfl (by omega) (by omega) (fun z21 hz21 => ?_)
          refine mz_ld148 (by decide +kernel) hc hI hz21 (by omega) (by omega) (fun v22 ev22 pv22 => ?_)
          rw [ev22.trans ev13.symm]
          clear pv22 ev22 v22
          clear hz21
          refine pe_goto (off := 4) (t := 21) (by decide +kernel) (by decide) rfl ?_
          refine pe_iret (by decide +kernel) rfl rfl ⟨rfl, rfl, ?_⟩
          show pmE pg X pg_tyl pg_cl (d + 2) 201 21 [.ref 147, pm_dead, pm_dead] [.int v13] (md wc f A) _
          refine pe_bipushv (n := 32) (v := 32) (by decide +kernel) (by decide +kernel) ?_
          refine pz_icmp_ne (off := 16) (t := 39) (by decide +kernel) (by decide) rfl rfl kz_32 (fun h23 => ?_) (fun h23 => ?_)
          · skip
            exact k_39_0 f hI (fun k n3 => (hG k n3)) (by omega)
          · skip
            refine pe_aload_n (j := 0) (by decide +kernel) rfl ?_
            refine pe_dup (by decide +kernel) rfl ?_
            refine pe_get (j := 83) (ci := 12) (n := 3) (by decide +kernel) (by decide +kernel) (md_o hc) rfl ?_
            refine pe_iconstv (n := 1) (v := 1) (by decide +kernel) (by decide +kernel) ?_
            refine pz_add (by decide +kernel) rfl kz_1 (by omega) (by omega) (fun z24 hz24 => ?_)
            refine mz_put3 (jj := 83) (by decide +kernel) (by decide +kernel) hc hI (by omega) (by omega) (fun f25 ef25 hIf25 => ?_)
            refine pe_goto (off := (-36)) (t := 0) (by decide +kernel) (by decide) rfl ?_
            have hn_f25 : (f25 3).toInt = ((f 3).toInt + 1) := (congrArg Int32.toInt (show f25 3 = z24 from upf_at ef25)).trans hz24
            have hx26 : (f25 3).toInt = ((f 3).toInt + 1) := (congrArg Int32.toInt (show f25 3 = z24 from upf_at ef25)).trans hz24
            exact ih f25 hIf25 (fun k n3 => (upf_fr ef25 n3).trans ((hG k n3))) (by omega) (by omega)
set_option maxRecDepth 100000 in
set_option maxHeartbeats 8000000 in
theorem MM_201 {X : pm_X} {d : Nat} {wc : pm_W} {f : Nat → Int32} {A : Nat → List Int32} (hc : wc.length = 147) (hI : MI f A) : pmE pg X pg_tyl pg_cl (d + 2) 201 0 (pm_ent (pm_max pg 201) [.ref 147]) [] (md wc f A) (fun q => ∃ (f' : Nat → Int32), q = (none, md wc f' A, 0, 0) ∧ MI f' A ∧ (∀ k : Nat, k ≠ 3 → k ≠ 4 → k ≠ 5 → k ≠ 6 → k ≠ 7 → f' k = f k) ∧ ((-5) * (f' 3).toInt + (f' 5).toInt + 5 * (f 3).toInt) ≤ 0 ∧ ((True))) := by
  show pmE pg X pg_tyl pg_cl (d + 2) 201 0 [.ref 147, pm_dead, pm_dead] [] (md wc f A) _
  refine ML_201_0 hc (fun f1 hIy2 hGhIy2 hx3 => ?_) 601 f hI (fun k _ => rfl) (by omega) (by have h := hI.1 3; simp only [MF] at h; omega)
  have hr_3_f1 := hIy2.1 3
  simp only [MF] at hr_3_f1
  refine pe_aload_n (j := 0) (by decide +kernel) rfl ?_
  refine pe_aload_n (j := 0) (by decide +kernel) rfl ?_
  refine pe_get (j := 83) (ci := 12) (n := 3) (by decide +kernel) (by decide +kernel) (md_o hc) rfl ?_
  refine mz_put4 (jj := 90) (by decide +kernel) (by decide +kernel) hc hIy2 (fun f4 ef4 hIf4 => ?_)
  refine pe_aload_n (j := 0) (by decide +kernel) rfl ?_
  refine pe_aload_n (j := 0) (by decide +kernel) rfl ?_
  refine pe_get (j := 83) (ci := 12) (n := 3) (by decide +kernel) (by decide +kernel) (md_o hc) rfl ?_
  refine pe_top (v := (f1 3)) (upf_fr ef4 (by decide)) ?_
  refine pi_V (j := 86) (mj := 202) (by decide +kernel) (cll_V (args := [.int (f1 3)]) (n := 1) (by decide +kernel) rfl rfl (md_o hc) (by decide +kernel) (Nat.le_of_ble_eq_true rfl) (Nat.le_of_ble_eq_true rfl)) ?_
  show pmE pg X pg_tyl pg_cl (d + 1) 202 0 [.ref 147, .int (f1 3)] [] (md wc f4 A) _
  refine pe_iload_n (j := 1) (by decide +kernel) rfl ?_
  refine pe_aload_n (j := 0) (by decide +kernel) rfl ?_
  refine pe_get (j := 75) (ci := 12) (n := 2) (by decide +kernel) (by decide +kernel) (md_o hc) rfl ?_
  have hr_2_f := hI.1 2
  simp only [MF] at hr_2_f
  refine pe_top (v := (f 2)) ((upf_fr ef4 (by decide)).trans ((hGhIy2 2 (by decide)))) ?_
  refine pz_icmp_ge (off := 15) (t := 20) (by decide +kernel) (by decide) rfl rfl rfl (fun h5 => ?_) (fun h5 => ?_)
  · skip
    refine pe_iconstv (n := (-1)) (v := (-1)) (by decide +kernel) (by decide +kernel) ?_
    refine pe_iret (by decide +kernel) rfl rfl ⟨rfl, rfl, ?_⟩
    show pmE pg X pg_tyl pg_cl (d + 2) 201 55 [.ref 147, pm_dead, pm_dead] [.int (-1)] (md wc f4 A) _
    refine pe_istore_n (j := 1) (ls' := [.ref 147, .int (-1), pm_dead]) (by decide +kernel) (Nat.le_of_ble_eq_true rfl) rfl ?_
    refine pe_iload_n (j := 1) (by decide +kernel) rfl ?_
    refine pz_if_ge (off := 11) (t := 68) (by decide +kernel) (by decide) rfl kz_m1 (fun h6 => by omega) (fun h6 => ?_)
    refine pe_aload_n (j := 0) (by decide +kernel) rfl ?_
    refine pe_iconstv (n := 0) (v := 0) (by decide +kernel) (by decide +kernel) ?_
    refine mz_put5 (jj := 93) (by decide +kernel) (by decide +kernel) hc hIf4 (by decide +kernel) (by decide +kernel) (fun f7 ef7 hIf7 => ?_)
    refine pe_goto (off := 243) (t := 308) (by decide +kernel) (by decide) rfl ?_
    have hx8 : (f7 3).toInt = (f1 3).toInt := (congrArg Int32.toInt (show f7 3 = (f1 3) from (upf_fr ef7 (by decide)).trans (upf_fr ef4 (by decide)))).trans rfl
    have hx9 : (f7 5).toInt = 0 := (congrArg Int32.toInt (show f7 5 = 0 from upf_at ef7)).trans kz_0
    exact pe_vret (by decide +kernel) rfl ⟨f7, rfl, hIf7, (fun k n3 n4 n5 n6 n7 => (upf_fr ef7 n5).trans ((upf_fr ef4 n4).trans ((hGhIy2 k n3)))), (by omega), trivial⟩
  · skip
    refine pe_aload_n (j := 0) (by decide +kernel) rfl ?_
    refine pe_get (j := 7) (ci := 12) (n := 0) (by decide +kernel) (by decide +kernel) (md_o hc) rfl ?_
    refine pe_bipushv (n := 10) (v := 10) (by decide +kernel) (by decide +kernel) ?_
    refine pe_iload_n (j := 1) (by decide +kernel) rfl ?_
    refine pz_add (by decide +kernel) kz_10 rfl (by omega) (by omega) (fun z10 hz10 => ?_)
    refine mz_ld148 (by decide +kernel) hc hIf4 hz10 (by omega) (by omega) (fun v11 ev11 pv11 => ?_)
    clear pv11
    clear hz10
    refine pe_goto (off := 4) (t := 21) (by decide +kernel) (by decide) rfl ?_
    refine pe_iret (by decide +kernel) rfl rfl ⟨rfl, rfl, ?_⟩
    show pmE pg X pg_tyl pg_cl (d + 2) 201 55 [.ref 147, pm_dead, pm_dead] [.int v11] (md wc f4 A) _
    refine pe_istore_n (j := 1) (ls' := [.ref 147, .int v11, pm_dead]) (by decide +kernel) (Nat.le_of_ble_eq_true rfl) rfl ?_
    refine pe_iload_n (j := 1) (by decide +kernel) rfl ?_
    have lw13 := zi_lo v11
    have uw13 := zi_hi v11
    refine pz_if_ge (off := 11) (t := 68) (by decide +kernel) (by decide) rfl rfl (fun h12 => ?_) (fun h12 => ?_)
    · skip
      refine pe_iload_n (j := 1) (by decide +kernel) rfl ?_
      refine pi_S (j := 96) (mj := 203) (by decide +kernel) (by decide +kernel) rfl ?_
      show pmE pg X pg_tyl pg_cl (d + 1) 203 0 [.int v11] [] (md wc f4 A) _
      refine pe_iload_n (j := 0) (by decide +kernel) rfl ?_
      refine pe_bipushv (n := 97) (v := 97) (by decide +kernel) (by decide +kernel) ?_
      refine pz_icmp_lt (off := 13) (t := 16) (by decide +kernel) (by decide) rfl rfl kz_97 (fun h14 => ?_) (fun h14 => ?_)
      · skip
        refine pe_iconstv (n := 0) (v := 0) (by decide +kernel) (by decide +kernel) ?_
        refine pe_iret (by decide +kernel) rfl rfl ⟨rfl, rfl, ?_⟩
        show pmE pg X pg_tyl pg_cl (d + 2) 201 72 [.ref 147, .int v11, pm_dead] [.int 0] (md wc f4 A) _
        refine pz_if_eq (off := 111) (t := 183) (by decide +kernel) (by decide) rfl kz_0 (fun h15 => ?_) (fun h15 => by omega)
        refine pe_iload_n (j := 1) (by decide +kernel) rfl ?_
        refine pi_S (j := 106) (mj := 206) (by decide +kernel) (by decide +kernel) rfl ?_
        show pmE pg X pg_tyl pg_cl (d + 1) 206 0 [.int v11] [] (md wc f4 A) _
        refine pe_iload_n (j := 0) (by decide +kernel) rfl ?_
        refine pe_bipushv (n := 48) (v := 48) (by decide +kernel) (by decide +kernel) ?_
        refine pz_icmp_lt (off := 13) (t := 16) (by decide +kernel) (by decide) rfl rfl kz_48 (fun h16 => ?_) (fun h16 => ?_)
        · skip
          refine pe_iconstv (n := 0) (v := 0) (by decide +kernel) (by decide +kernel) ?_
          refine pe_iret (by decide +kernel) rfl rfl ⟨rfl, rfl, ?_⟩
          show pmE pg X pg_tyl pg_cl (d + 2) 201 187 [.ref 147, .int v11, pm_dead] [.int 0] (md wc f4 A) _
          refine pz_if_eq (off := 96) (t := 283) (by decide +kernel) (by decide) rfl kz_0 (fun h17 => ?_) (fun h17 => by omega)
          refine pe_aload_n (j := 0) (by decide +kernel) rfl ?_
          refine pe_dup (by decide +kernel) rfl ?_
          refine pe_get (j := 83) (ci := 12) (n := 3) (by decide +kernel) (by decide +kernel) (md_o hc) rfl ?_
          refine pe_top (v := (f1 3)) (upf_fr ef4 (by decide)) ?_
          refine pe_iconstv (n := 1) (v := 1) (by decide +kernel) (by decide +kernel) ?_
          refine pz_add (by decide +kernel) rfl kz_1 (by omega) (by omega) (fun z18 hz18 => ?_)
          refine mz_put3 (jj := 83) (by decide +kernel) (by decide +kernel) hc hIf4 (by omega) (by omega) (fun f19 ef19 hIf19 => ?_)
          refine pe_aload_n (j := 0) (by decide +kernel) rfl ?_
          refine pe_iload_n (j := 1) (by decide +kernel) rfl ?_
          refine pe_bipushv (n := 59) (v := 59) (by decide +kernel) (by decide +kernel) ?_
          refine pz_icmp_ne (off := 7) (t := 304) (by decide +kernel) (by decide) rfl rfl kz_59 (fun h20 => ?_) (fun h20 => by omega)
          refine pe_iconstv (n := 4) (v := 4) (by decide +kernel) (by decide +kernel) ?_
          refine mz_put5 (jj := 93) (by decide +kernel) (by decide +kernel) hc hIf19 (by decide +kernel) (by decide +kernel) (fun f21 ef21 hIf21 => ?_)
          have hx22 : (f21 3).toInt = ((f1 3).toInt + 1) := (congrArg Int32.toInt (show f21 3 = z18 from (upf_fr ef21 (by decide)).trans (upf_at ef19))).trans hz18
          have hx23 : (f21 5).toInt = 4 := (congrArg Int32.toInt (show f21 5 = 4 from upf_at ef21)).trans kz_4
          exact pe_vret (by decide +kernel) rfl ⟨f21, rfl, hIf21, (fun k n3 n4 n5 n6 n7 => (upf_fr ef21 n5).trans ((upf_fr ef19 n3).trans ((upf_fr ef4 n4).trans ((hGhIy2 k n3))))), (by omega), trivial⟩
        · skip
          refine pe_iload_n (j := 0) (by decide +kernel) rfl ?_
          refine pe_bipushv (n := 57) (v := 57) (by decide +kernel) (by decide +kernel) ?_
          refine pz_icmp_gt (off := 7) (t := 16) (by decide +kernel) (by decide) rfl rfl kz_57 (fun h24 => ?_) (fun h24 => ?_)
          · skip
            refine pe_iconstv (n := 0) (v := 0) (by decide +kernel) (by decide +kernel) ?_
            refine pe_iret (by decide +kernel) rfl rfl ⟨rfl, rfl, ?_⟩
            show pmE pg X pg_tyl pg_cl (d + 2) 201 187 [.ref 147, .int v11, pm_dead] [.int 0] (md wc f4 A) _
            refine pz_if_eq (off := 96) (t := 283) (by decide +kernel) (by decide) rfl kz_0 (fun h25 => ?_) (fun h25 => by omega)
            refine pe_aload_n (j := 0) (by decide +kernel) rfl ?_
            refine pe_dup (by decide +kernel) rfl ?_
            refine pe_get (j := 83) (ci := 12) (n := 3) (by decide +kernel) (by decide +kernel) (md_o hc) rfl ?_
            refine pe_top (v := (f1 3)) (upf_fr ef4 (by decide)) ?_
            refine pe_iconstv (n := 1) (v := 1) (by decide +kernel) (by decide +kernel) ?_
            refine pz_add (by decide +kernel) rfl kz_1 (by omega) (by omega) (fun z26 hz26 => ?_)
            refine mz_put3 (jj := 83) (by decide +kernel) (by decide +kernel) hc hIf4 (by omega) (by omega) (fun f27 ef27 hIf27 => ?_)
            refine pe_aload_n (j := 0) (by decide +kernel) rfl ?_
            refine pe_iload_n (j := 1) (by decide +kernel) rfl ?_
            refine pe_bipushv (n := 59) (v := 59) (by decide +kernel) (by decide +kernel) ?_
            refine pz_icmp_ne (off := 7) (t := 304) (by decide +kernel) (by decide) rfl rfl kz_59 (fun h28 => ?_) (fun h28 => ?_)
            · skip
              refine pe_iconstv (n := 4) (v := 4) (by decide +kernel) (by decide +kernel) ?_
              refine mz_put5 (jj := 93) (by decide +kernel) (by decide +kernel) hc hIf27 (by decide +kernel) (by decide +kernel) (fun f29 ef29 hIf29 => ?_)
              have hx30 : (f29 3).toInt = ((f1 3).toInt + 1) := (congrArg Int32.toInt (show f29 3 = z26 from (upf_fr ef29 (by decide)).trans (upf_at ef27))).trans hz26
              have hx31 : (f29 5).toInt = 4 := (congrArg Int32.toInt (show f29 5 = 4 from upf_at ef29)).trans kz_4
              exact pe_vret (by decide +kernel) rfl ⟨f29, rfl, hIf29, (fun k n3 n4 n5 n6 n7 => (upf_fr ef29 n5).trans ((upf_fr ef27 n3).trans ((upf_fr ef4 n4).trans ((hGhIy2 k n3))))), (by omega), trivial⟩
            · skip
              refine pe_iconstv (n := 2) (v := 2) (by decide +kernel) (by decide +kernel) ?_
              refine pe_goto (off := 4) (t := 305) (by decide +kernel) (by decide) rfl ?_
              refine mz_put5 (jj := 93) (by decide +kernel) (by decide +kernel) hc hIf27 (by decide +kernel) (by decide +kernel) (fun f32 ef32 hIf32 => ?_)
              have hx33 : (f32 3).toInt = ((f1 3).toInt + 1) := (congrArg Int32.toInt (show f32 3 = z26 from (upf_fr ef32 (by decide)).trans (upf_at ef27))).trans hz26
              have hx34 : (f32 5).toInt = 2 := (congrArg Int32.toInt (show f32 5 = 2 from upf_at ef32)).trans kz_2
              exact pe_vret (by decide +kernel) rfl ⟨f32, rfl, hIf32, (fun k n3 n4 n5 n6 n7 => (upf_fr ef32 n5).trans ((upf_fr ef27 n3).trans ((upf_fr ef4 n4).trans ((hGhIy2 k n3))))), (by omega), trivial⟩
          · skip
            refine pe_iconstv (n := 1) (v := 1) (by decide +kernel) (by decide +kernel) ?_
            refine pe_goto (off := 4) (t := 17) (by decide +kernel) (by decide) rfl ?_
            refine pe_iret (by decide +kernel) rfl rfl ⟨rfl, rfl, ?_⟩
            show pmE pg X pg_tyl pg_cl (d + 2) 201 187 [.ref 147, .int v11, pm_dead] [.int 1] (md wc f4 A) _
            refine pz_if_eq (off := 96) (t := 283) (by decide +kernel) (by decide) rfl kz_1 (fun h35 => by omega) (fun h35 => ?_)
            refine pe_aload_n (j := 0) (by decide +kernel) rfl ?_
            refine pe_iconstv (n := 0) (v := 0) (by decide +kernel) (by decide +kernel) ?_
            refine mz_put6 (jj := 109) (by decide +kernel) (by decide +kernel) hc hIf4 (fun f36 ef36 hIf36 => ?_)
            refine pe_aload_n (j := 0) (by decide +kernel) rfl ?_
            refine pe_aload_n (j := 0) (by decide +kernel) rfl ?_
            refine pe_get (j := 83) (ci := 12) (n := 3) (by decide +kernel) (by decide +kernel) (md_o hc) rfl ?_
            refine pe_top (v := (f1 3)) ((upf_fr ef36 (by decide)).trans (upf_fr ef4 (by decide))) ?_
            refine pi_V (j := 86) (mj := 202) (by decide +kernel) (cll_V (args := [.int (f1 3)]) (n := 1) (by decide +kernel) rfl rfl (md_o hc) (by decide +kernel) (Nat.le_of_ble_eq_true rfl) (Nat.le_of_ble_eq_true rfl)) ?_
            show pmE pg X pg_tyl pg_cl (d + 1) 202 0 [.ref 147, .int (f1 3)] [] (md wc f36 A) _
            refine pe_iload_n (j := 1) (by decide +kernel) rfl ?_
            refine pe_aload_n (j := 0) (by decide +kernel) rfl ?_
            refine pe_get (j := 75) (ci := 12) (n := 2) (by decide +kernel) (by decide +kernel) (md_o hc) rfl ?_
            refine pe_top (v := (f 2)) ((upf_fr ef36 (by decide)).trans ((upf_fr ef4 (by decide)).trans ((hGhIy2 2 (by decide))))) ?_
            refine pz_icmp_ge (off := 15) (t := 20) (by decide +kernel) (by decide) rfl rfl rfl (fun h37 => ?_) (fun h37 => ?_)
            · skip
              refine pe_iconstv (n := (-1)) (v := (-1)) (by decide +kernel) (by decide +kernel) ?_
              refine pe_iret (by decide +kernel) rfl rfl ⟨rfl, rfl, ?_⟩
              show pmE pg X pg_tyl pg_cl (d + 2) 201 203 [.ref 147, .int v11, pm_dead] [.int (-1)] (md wc f36 A) _
              refine pi_S (j := 106) (mj := 206) (by decide +kernel) (by decide +kernel) rfl ?_
              show pmE pg X pg_tyl pg_cl (d + 1) 206 0 [.int (-1)] [] (md wc f36 A) _
              refine pe_iload_n (j := 0) (by decide +kernel) rfl ?_
              refine pe_bipushv (n := 48) (v := 48) (by decide +kernel) (by decide +kernel) ?_
              refine pz_icmp_lt (off := 13) (t := 16) (by decide +kernel) (by decide) rfl kz_m1 kz_48 (fun h38 => ?_) (fun h38 => by omega)
              refine pe_iconstv (n := 0) (v := 0) (by decide +kernel) (by decide +kernel) ?_
              refine pe_iret (by decide +kernel) rfl rfl ⟨rfl, rfl, ?_⟩
              show pmE pg X pg_tyl pg_cl (d + 2) 201 206 [.ref 147, .int v11, pm_dead] [.int 0] (md wc f36 A) _
              refine pz_if_eq (off := 52) (t := 258) (by decide +kernel) (by decide) rfl kz_0 (fun h39 => ?_) (fun h39 => by omega)
              refine pe_aload_n (j := 0) (by decide +kernel) rfl ?_
              refine pe_aload_n (j := 0) (by decide +kernel) rfl ?_
              refine pe_get (j := 83) (ci := 12) (n := 3) (by decide +kernel) (by decide +kernel) (md_o hc) rfl ?_
              refine pe_top (v := (f1 3)) ((upf_fr ef36 (by decide)).trans (upf_fr ef4 (by decide))) ?_
              refine pe_aload_n (j := 0) (by decide +kernel) rfl ?_
              refine pe_get (j := 90) (ci := 12) (n := 4) (by decide +kernel) (by decide +kernel) (md_o hc) rfl ?_
              refine pe_top (v := (f1 3)) ((upf_fr ef36 (by decide)).trans (upf_at ef4)) ?_
              refine pz_sub (by decide +kernel) rfl rfl (by omega) (by omega) (fun z40 hz40 => ?_)
              refine pe_iconstv (n := 2) (v := 2) (by decide +kernel) (by decide +kernel) ?_
              refine pz_icmp_le (off := 7) (t := 276) (by decide +kernel) (by decide) rfl hz40 kz_2 (fun h41 => ?_) (fun h41 => by omega)
              clear hz40
              refine pe_iconstv (n := 1) (v := 1) (by decide +kernel) (by decide +kernel) ?_
              refine mz_put5 (jj := 93) (by decide +kernel) (by decide +kernel) hc hIf36 (by decide +kernel) (by decide +kernel) (fun f42 ef42 hIf42 => ?_)
              refine pe_goto (off := 28) (t := 308) (by decide +kernel) (by decide) rfl ?_
              have hx43 : (f42 3).toInt = (f1 3).toInt := (congrArg Int32.toInt (show f42 3 = (f1 3) from (upf_fr ef42 (by decide)).trans ((upf_fr ef36 (by decide)).trans (upf_fr ef4 (by decide))))).trans rfl
              have hx44 : (f42 5).toInt = 1 := (congrArg Int32.toInt (show f42 5 = 1 from upf_at ef42)).trans kz_1
              exact pe_vret (by decide +kernel) rfl ⟨f42, rfl, hIf42, (fun k n3 n4 n5 n6 n7 => (upf_fr ef42 n5).trans ((upf_fr ef36 n6).trans ((upf_fr ef4 n4).trans ((hGhIy2 k n3))))), (by omega), trivial⟩
            · skip
              refine pe_aload_n (j := 0) (by decide +kernel) rfl ?_
              refine pe_get (j := 7) (ci := 12) (n := 0) (by decide +kernel) (by decide +kernel) (md_o hc) rfl ?_
              refine pe_bipushv (n := 10) (v := 10) (by decide +kernel) (by decide +kernel) ?_
              refine pe_iload_n (j := 1) (by decide +kernel) rfl ?_
              refine pz_add (by decide +kernel) kz_10 rfl (by omega) (by omega) (fun z45 hz45 => ?_)
              refine mz_ld148 (by decide +kernel) hc hIf36 hz45 (by omega) (by omega) (fun v46 ev46 pv46 => ?_)
              rw [ev46.trans ev11.symm]
              clear pv46 ev46 v46
              clear hz45
              refine pe_goto (off := 4) (t := 21) (by decide +kernel) (by decide) rfl ?_
              refine pe_iret (by decide +kernel) rfl rfl ⟨rfl, rfl, ?_⟩
              show pmE pg X pg_tyl pg_cl (d + 2) 201 203 [.ref 147, .int v11, pm_dead] [.int v11] (md wc f36 A) _
              refine pi_S (j := 106) (mj := 206) (by decide +kernel) (by decide +kernel) rfl ?_
              show pmE pg X pg_tyl pg_cl (d + 1) 206 0 [.int v11] [] (md wc f36 A) _
              refine pe_iload_n (j := 0) (by decide +kernel) rfl ?_
              refine pe_bipushv (n := 48) (v := 48) (by decide +kernel) (by decide +kernel) ?_
              refine pz_icmp_lt (off := 13) (t := 16) (by decide +kernel) (by decide) rfl rfl kz_48 (fun h47 => by omega) (fun h47 => ?_)
              refine pe_iload_n (j := 0) (by decide +kernel) rfl ?_
              refine pe_bipushv (n := 57) (v := 57) (by decide +kernel) (by decide +kernel) ?_
              refine pz_icmp_gt (off := 7) (t := 16) (by decide +kernel) (by decide) rfl rfl kz_57 (fun h48 => by omega) (fun h48 => ?_)
              refine pe_iconstv (n := 1) (v := 1) (by decide +kernel) (by decide +kernel) ?_
              refine pe_goto (off := 4) (t := 17) (by decide +kernel) (by decide) rfl ?_
              refine pe_iret (by decide +kernel) rfl rfl ⟨rfl, rfl, ?_⟩
              show pmE pg X pg_tyl pg_cl (d + 2) 201 206 [.ref 147, .int v11, pm_dead] [.int 1] (md wc f36 A) _
              refine pz_if_eq (off := 52) (t := 258) (by decide +kernel) (by decide) rfl kz_1 (fun h49 => by omega) (fun h49 => ?_)
              refine pe_aload_n (j := 0) (by decide +kernel) rfl ?_
              refine pe_get (j := 83) (ci := 12) (n := 3) (by decide +kernel) (by decide +kernel) (md_o hc) rfl ?_
              refine pe_top (v := (f1 3)) ((upf_fr ef36 (by decide)).trans (upf_fr ef4 (by decide))) ?_
              refine pe_aload_n (j := 0) (by decide +kernel) rfl ?_
              refine pe_get (j := 90) (ci := 12) (n := 4) (by decide +kernel) (by decide +kernel) (md_o hc) rfl ?_
              refine pe_top (v := (f1 3)) ((upf_fr ef36 (by decide)).trans (upf_at ef4)) ?_
              refine pz_sub (by decide +kernel) rfl rfl (by omega) (by omega) (fun z50 hz50 => ?_)
              refine pe_iconstv (n := 2) (v := 2) (by decide +kernel) (by decide +kernel) ?_
              refine pz_icmp_ge (off := 26) (t := 245) (by decide +kernel) (by decide) rfl hz50 kz_2 (fun h51 => by omega) (fun h51 => ?_)
              clear hz50
              refine pe_aload_n (j := 0) (by decide +kernel) rfl ?_
              refine pe_bipushv (n := 10) (v := 10) (by decide +kernel) (by decide +kernel) ?_
              refine pe_aload_n (j := 0) (by decide +kernel) rfl ?_
              refine pe_get (j := 109) (ci := 12) (n := 6) (by decide +kernel) (by decide +kernel) (md_o hc) rfl ?_
              refine pe_top (v := 0) (upf_at ef36) ?_
              refine pe_imul (by decide +kernel) ?_
              refine pe_top (v := 0) (by decide +kernel) ?_
              refine pe_aload_n (j := 0) (by decide +kernel) rfl ?_
              refine pe_aload_n (j := 0) (by decide +kernel) rfl ?_
              refine pe_get (j := 83) (ci := 12) (n := 3) (by decide +kernel) (by decide +kernel) (md_o hc) rfl ?_
              refine pe_top (v := (f1 3)) ((upf_fr ef36 (by decide)).trans (upf_fr ef4 (by decide))) ?_
              refine pi_V (j := 86) (mj := 202) (by decide +kernel) (cll_V (args := [.int (f1 3)]) (n := 1) (by decide +kernel) rfl rfl (md_o hc) (by decide +kernel) (Nat.le_of_ble_eq_true rfl) (Nat.le_of_ble_eq_true rfl)) ?_
              show pmE pg X pg_tyl pg_cl (d + 1) 202 0 [.ref 147, .int (f1 3)] [] (md wc f36 A) _
              refine pe_iload_n (j := 1) (by decide +kernel) rfl ?_
              refine pe_aload_n (j := 0) (by decide +kernel) rfl ?_
              refine pe_get (j := 75) (ci := 12) (n := 2) (by decide +kernel) (by decide +kernel) (md_o hc) rfl ?_
              refine pe_top (v := (f 2)) ((upf_fr ef36 (by decide)).trans ((upf_fr ef4 (by decide)).trans ((hGhIy2 2 (by decide))))) ?_
              refine pz_icmp_ge (off := 15) (t := 20) (by decide +kernel) (by decide) rfl rfl rfl (fun h53 => ?_) (fun h53 => ?_)
              · skip
                refine pe_iconstv (n := (-1)) (v := (-1)) (by decide +kernel) (by decide +kernel) ?_
                refine pe_iret (by decide +kernel) rfl rfl ⟨rfl, rfl, ?_⟩
                show pmE pg X pg_tyl pg_cl (d + 2) 201 238 [.ref 147, .int v11, pm_dead] [.int (-1), .int 0, .ref 147] (md wc f36 A) _
                refine pe_iadd (by decide +kernel) ?_
                refine pe_top (v := (-1)) (by decide +kernel) ?_
                refine pe_bipushv (n := 48) (v := 48) (by decide +kernel) (by decide +kernel) ?_
                refine pe_isub (by decide +kernel) ?_
                refine pe_top (v := (-49)) (by decide +kernel) ?_
                refine mz_put6 (jj := 109) (by decide +kernel) (by decide +kernel) hc hIf36 (fun f56 ef56 hIf56 => ?_)
                refine pe_aload_n (j := 0) (by decide +kernel) rfl ?_
                refine pe_dup (by decide +kernel) rfl ?_
                refine pe_get (j := 83) (ci := 12) (n := 3) (by decide +kernel) (by decide +kernel) (md_o hc) rfl ?_
                refine pe_top (v := (f1 3)) ((upf_fr ef56 (by decide)).trans ((upf_fr ef36 (by decide)).trans (upf_fr ef4 (by decide)))) ?_
                refine pe_iconstv (n := 1) (v := 1) (by decide +kernel) (by decide +kernel) ?_
                refine pz_add (by decide +kernel) rfl kz_1 (by omega) (by omega) (fun z57 hz57 => ?_)
                refine mz_put3 (jj := 83) (by decide +kernel) (by decide +kernel) hc hIf56 (by omega) (by omega) (fun f58 ef58 hIf58 => ?_)
                refine pe_goto (off := (-60)) (t := 195) (by decide +kernel) (by decide) rfl ?_
                have hx62 : (f58 3).toInt = ((f1 3).toInt + 1) := (congrArg Int32.toInt (show f58 3 = z57 from upf_at ef58)).trans hz57
                have hx63 : (f58 3).toInt = ((f1 3).toInt + 1) := (congrArg Int32.toInt (show f58 3 = z57 from upf_at ef58)).trans hz57
                refine ML_201_195 hc (by omega) (fun f59 hIy60 hGhIy60 hx61 => ?_) 601 f58 hIf58 (fun k _ _ => rfl) (by omega) (by have h := hIf58.1 3; simp only [MF] at h; omega)
                have hr_3_f59 := hIy60.1 3
                simp only [MF] at hr_3_f59
                refine pe_aload_n (j := 0) (by decide +kernel) rfl ?_
                refine pe_aload_n (j := 0) (by decide +kernel) rfl ?_
                refine pe_get (j := 83) (ci := 12) (n := 3) (by decide +kernel) (by decide +kernel) (md_o hc) rfl ?_
                refine pe_aload_n (j := 0) (by decide +kernel) rfl ?_
                refine pe_get (j := 90) (ci := 12) (n := 4) (by decide +kernel) (by decide +kernel) (md_o hc) rfl ?_
                refine pe_top (v := (f1 3)) (((hGhIy60 4 (by decide) (by decide))).trans ((upf_fr ef58 (by decide)).trans ((upf_fr ef56 (by decide)).trans ((upf_fr ef36 (by decide)).trans (upf_at ef4))))) ?_
                refine pz_sub (by decide +kernel) rfl rfl (by omega) (by omega) (fun z64 hz64 => ?_)
                refine pe_iconstv (n := 2) (v := 2) (by decide +kernel) (by decide +kernel) ?_
                refine pz_icmp_le (off := 7) (t := 276) (by decide +kernel) (by decide) rfl hz64 kz_2 (fun h65 => ?_) (fun h65 => ?_)
                · skip
                  clear hz64
                  refine pe_iconstv (n := 1) (v := 1) (by decide +kernel) (by decide +kernel) ?_
                  refine mz_put5 (jj := 93) (by decide +kernel) (by decide +kernel) hc hIy60 (by decide +kernel) (by decide +kernel) (fun f66 ef66 hIf66 => ?_)
                  refine pe_goto (off := 28) (t := 308) (by decide +kernel) (by decide) rfl ?_
                  have hx67 : (f66 3).toInt = (f59 3).toInt := (congrArg Int32.toInt (show f66 3 = (f59 3) from upf_fr ef66 (by decide))).trans rfl
                  have hx68 : (f66 5).toInt = 1 := (congrArg Int32.toInt (show f66 5 = 1 from upf_at ef66)).trans kz_1
                  exact pe_vret (by decide +kernel) rfl ⟨f66, rfl, hIf66, (fun k n3 n4 n5 n6 n7 => (upf_fr ef66 n5).trans (((hGhIy60 k n3 n6)).trans ((upf_fr ef58 n3).trans ((upf_fr ef56 n6).trans ((upf_fr ef36 n6).trans ((upf_fr ef4 n4).trans ((hGhIy2 k n3)))))))), (by omega), trivial⟩
                · skip
                  clear hz64
                  refine pe_iconstv (n := 4) (v := 4) (by decide +kernel) (by decide +kernel) ?_
                  refine pe_goto (off := 4) (t := 277) (by decide +kernel) (by decide) rfl ?_
                  refine mz_put5 (jj := 93) (by decide +kernel) (by decide +kernel) hc hIy60 (by decide +kernel) (by decide +kernel) (fun f69 ef69 hIf69 => ?_)
                  refine pe_goto (off := 28) (t := 308) (by decide +kernel) (by decide) rfl ?_
                  have hx70 : (f69 3).toInt = (f59 3).toInt := (congrArg Int32.toInt (show f69 3 = (f59 3) from upf_fr ef69 (by decide))).trans rfl
                  have hx71 : (f69 5).toInt = 4 := (congrArg Int32.toInt (show f69 5 = 4 from upf_at ef69)).trans kz_4
                  exact pe_vret (by decide +kernel) rfl ⟨f69, rfl, hIf69, (fun k n3 n4 n5 n6 n7 => (upf_fr ef69 n5).trans (((hGhIy60 k n3 n6)).trans ((upf_fr ef58 n3).trans ((upf_fr ef56 n6).trans ((upf_fr ef36 n6).trans ((upf_fr ef4 n4).trans ((hGhIy2 k n3)))))))), (by omega), trivial⟩
              · skip
                refine pe_aload_n (j := 0) (by decide +kernel) rfl ?_
                refine pe_get (j := 7) (ci := 12) (n := 0) (by decide +kernel) (by decide +kernel) (md_o hc) rfl ?_
                refine pe_bipushv (n := 10) (v := 10) (by decide +kernel) (by decide +kernel) ?_
                refine pe_iload_n (j := 1) (by decide +kernel) rfl ?_
                refine pz_add (by decide +kernel) kz_10 rfl (by omega) (by omega) (fun z72 hz72 => ?_)
                refine mz_ld148 (by decide +kernel) hc hIf36 hz72 (by omega) (by omega) (fun v73 ev73 pv73 => ?_)
                rw [ev73.trans ev11.symm]
                clear pv73 ev73 v73
                clear hz72
                refine pe_goto (off := 4) (t := 21) (by decide +kernel) (by decide) rfl ?_
                refine pe_iret (by decide +kernel) rfl rfl ⟨rfl, rfl, ?_⟩
                show pmE pg X pg_tyl pg_cl (d + 2) 201 238 [.ref 147, .int v11, pm_dead] [.int v11, .int 0, .ref 147] (md wc f36 A) _
                refine pz_add (by decide +kernel) kz_0 rfl (by omega) (by omega) (fun z74 hz74 => ?_)
                refine pe_bipushv (n := 48) (v := 48) (by decide +kernel) (by decide +kernel) ?_
                refine pz_sub (by decide +kernel) hz74 kz_48 (by omega) (by omega) (fun z75 hz75 => ?_)
                clear hz74
                refine mz_put6 (jj := 109) (by decide +kernel) (by decide +kernel) hc hIf36 (fun f76 ef76 hIf76 => ?_)
                refine pe_aload_n (j := 0) (by decide +kernel) rfl ?_
                refine pe_dup (by decide +kernel) rfl ?_
                refine pe_get (j := 83) (ci := 12) (n := 3) (by decide +kernel) (by decide +kernel) (md_o hc) rfl ?_
                refine pe_top (v := (f1 3)) ((upf_fr ef76 (by decide)).trans ((upf_fr ef36 (by decide)).trans (upf_fr ef4 (by decide)))) ?_
                refine pe_iconstv (n := 1) (v := 1) (by decide +kernel) (by decide +kernel) ?_
                refine pz_add (by decide +kernel) rfl kz_1 (by omega) (by omega) (fun z77 hz77 => ?_)
                refine mz_put3 (jj := 83) (by decide +kernel) (by decide +kernel) hc hIf76 (by omega) (by omega) (fun f78 ef78 hIf78 => ?_)
                refine pe_goto (off := (-60)) (t := 195) (by decide +kernel) (by decide) rfl ?_
                have hx82 : (f78 3).toInt = ((f1 3).toInt + 1) := (congrArg Int32.toInt (show f78 3 = z77 from upf_at ef78)).trans hz77
                have hx83 : (f78 3).toInt = ((f1 3).toInt + 1) := (congrArg Int32.toInt (show f78 3 = z77 from upf_at ef78)).trans hz77
                refine ML_201_195 hc (by omega) (fun f79 hIy80 hGhIy80 hx81 => ?_) 601 f78 hIf78 (fun k _ _ => rfl) (by omega) (by have h := hIf78.1 3; simp only [MF] at h; omega)
                have hr_3_f79 := hIy80.1 3
                simp only [MF] at hr_3_f79
                refine pe_aload_n (j := 0) (by decide +kernel) rfl ?_
                refine pe_aload_n (j := 0) (by decide +kernel) rfl ?_
                refine pe_get (j := 83) (ci := 12) (n := 3) (by decide +kernel) (by decide +kernel) (md_o hc) rfl ?_
                refine pe_aload_n (j := 0) (by decide +kernel) rfl ?_
                refine pe_get (j := 90) (ci := 12) (n := 4) (by decide +kernel) (by decide +kernel) (md_o hc) rfl ?_
                refine pe_top (v := (f1 3)) (((hGhIy80 4 (by decide) (by decide))).trans ((upf_fr ef78 (by decide)).trans ((upf_fr ef76 (by decide)).trans ((upf_fr ef36 (by decide)).trans (upf_at ef4))))) ?_
                refine pz_sub (by decide +kernel) rfl rfl (by omega) (by omega) (fun z84 hz84 => ?_)
                refine pe_iconstv (n := 2) (v := 2) (by decide +kernel) (by decide +kernel) ?_
                refine pz_icmp_le (off := 7) (t := 276) (by decide +kernel) (by decide) rfl hz84 kz_2 (fun h85 => ?_) (fun h85 => ?_)
                · skip
                  clear hz84
                  refine pe_iconstv (n := 1) (v := 1) (by decide +kernel) (by decide +kernel) ?_
                  refine mz_put5 (jj := 93) (by decide +kernel) (by decide +kernel) hc hIy80 (by decide +kernel) (by decide +kernel) (fun f86 ef86 hIf86 => ?_)
                  refine pe_goto (off := 28) (t := 308) (by decide +kernel) (by decide) rfl ?_
                  have hx87 : (f86 3).toInt = (f79 3).toInt := (congrArg Int32.toInt (show f86 3 = (f79 3) from upf_fr ef86 (by decide))).trans rfl
                  have hx88 : (f86 5).toInt = 1 := (congrArg Int32.toInt (show f86 5 = 1 from upf_at ef86)).trans kz_1
                  exact pe_vret (by decide +kernel) rfl ⟨f86, rfl, hIf86, (fun k n3 n4 n5 n6 n7 => (upf_fr ef86 n5).trans (((hGhIy80 k n3 n6)).trans ((upf_fr ef78 n3).trans ((upf_fr ef76 n6).trans ((upf_fr ef36 n6).trans ((upf_fr ef4 n4).trans ((hGhIy2 k n3)))))))), (by omega), trivial⟩
                · skip
                  clear hz84
                  refine pe_iconstv (n := 4) (v := 4) (by decide +kernel) (by decide +kernel) ?_
                  refine pe_goto (off := 4) (t := 277) (by decide +kernel) (by decide) rfl ?_
                  refine mz_put5 (jj := 93) (by decide +kernel) (by decide +kernel) hc hIy80 (by decide +kernel) (by decide +kernel) (fun f89 ef89 hIf89 => ?_)
                  refine pe_goto (off := 28) (t := 308) (by decide +kernel) (by decide) rfl ?_
                  have hx90 : (f89 3).toInt = (f79 3).toInt := (congrArg Int32.toInt (show f89 3 = (f79 3) from upf_fr ef89 (by decide))).trans rfl
                  have hx91 : (f89 5).toInt = 4 := (congrArg Int32.toInt (show f89 5 = 4 from upf_at ef89)).trans kz_4
                  exact pe_vret (by decide +kernel) rfl ⟨f89, rfl, hIf89, (fun k n3 n4 n5 n6 n7 => (upf_fr ef89 n5).trans (((hGhIy80 k n3 n6)).trans ((upf_fr ef78 n3).trans ((upf_fr ef76 n6).trans ((upf_fr ef36 n6).trans ((upf_fr ef4 n4).trans ((hGhIy2 k n3)))))))), (by omega), trivial⟩
      · skip
        refine pe_iload_n (j := 0) (by decide +kernel) rfl ?_
        refine pe_bipushv (n := 122) (v := 122) (by decide +kernel) (by decide +kernel) ?_
        refine pz_icmp_gt (off := 7) (t := 16) (by decide +kernel) (by decide) rfl rfl kz_122 (fun h92 => ?_) (fun h92 => ?_)
        · skip
          refine pe_iconstv (n := 0) (v := 0) (by decide +kernel) (by decide +kernel) ?_
          refine pe_iret (by decide +kernel) rfl rfl ⟨rfl, rfl, ?_⟩
          show pmE pg X pg_tyl pg_cl (d + 2) 201 72 [.ref 147, .int v11, pm_dead] [.int 0] (md wc f4 A) _
          refine pz_if_eq (off := 111) (t := 183) (by decide +kernel) (by decide) rfl kz_0 (fun h93 => ?_) (fun h93 => by omega)
          refine pe_iload_n (j := 1) (by decide +kernel) rfl ?_
          refine pi_S (j := 106) (mj := 206) (by decide +kernel) (by decide +kernel) rfl ?_
          show pmE pg X pg_tyl pg_cl (d + 1) 206 0 [.int v11] [] (md wc f4 A) _
          refine pe_iload_n (j := 0) (by decide +kernel) rfl ?_
          refine pe_bipushv (n := 48) (v := 48) (by decide +kernel) (by decide +kernel) ?_
          refine pz_icmp_lt (off := 13) (t := 16) (by decide +kernel) (by decide) rfl rfl kz_48 (fun h94 => by omega) (fun h94 => ?_)
          refine pe_iload_n (j := 0) (by decide +kernel) rfl ?_
          refine pe_bipushv (n := 57) (v := 57) (by decide +kernel) (by decide +kernel) ?_
          refine pz_icmp_gt (off := 7) (t := 16) (by decide +kernel) (by decide) rfl rfl kz_57 (fun h95 => ?_) (fun h95 => by omega)
          refine pe_iconstv (n := 0) (v := 0) (by decide +kernel) (by decide +kernel) ?_
          refine pe_iret (by decide +kernel) rfl rfl ⟨rfl, rfl, ?_⟩
          show pmE pg X pg_tyl pg_cl (d + 2) 201 187 [.ref 147, .int v11, pm_dead] [.int 0] (md wc f4 A) _
          refine pz_if_eq (off := 96) (t := 283) (by decide +kernel) (by decide) rfl kz_0 (fun h96 => ?_) (fun h96 => by omega)
          refine pe_aload_n (j := 0) (by decide +kernel) rfl ?_
          refine pe_dup (by decide +kernel) rfl ?_
          refine pe_get (j := 83) (ci := 12) (n := 3) (by decide +kernel) (by decide +kernel) (md_o hc) rfl ?_
          refine pe_top (v := (f1 3)) (upf_fr ef4 (by decide)) ?_
          refine pe_iconstv (n := 1) (v := 1) (by decide +kernel) (by decide +kernel) ?_
          refine pz_add (by decide +kernel) rfl kz_1 (by omega) (by omega) (fun z97 hz97 => ?_)
          refine mz_put3 (jj := 83) (by decide +kernel) (by decide +kernel) hc hIf4 (by omega) (by omega) (fun f98 ef98 hIf98 => ?_)
          refine pe_aload_n (j := 0) (by decide +kernel) rfl ?_
          refine pe_iload_n (j := 1) (by decide +kernel) rfl ?_
          refine pe_bipushv (n := 59) (v := 59) (by decide +kernel) (by decide +kernel) ?_
          refine pz_icmp_ne (off := 7) (t := 304) (by decide +kernel) (by decide) rfl rfl kz_59 (fun h99 => ?_) (fun h99 => by omega)
          refine pe_iconstv (n := 4) (v := 4) (by decide +kernel) (by decide +kernel) ?_
          refine mz_put5 (jj := 93) (by decide +kernel) (by decide +kernel) hc hIf98 (by decide +kernel) (by decide +kernel) (fun f100 ef100 hIf100 => ?_)
          have hx101 : (f100 3).toInt = ((f1 3).toInt + 1) := (congrArg Int32.toInt (show f100 3 = z97 from (upf_fr ef100 (by decide)).trans (upf_at ef98))).trans hz97
          have hx102 : (f100 5).toInt = 4 := (congrArg Int32.toInt (show f100 5 = 4 from upf_at ef100)).trans kz_4
          exact pe_vret (by decide +kernel) rfl ⟨f100, rfl, hIf100, (fun k n3 n4 n5 n6 n7 => (upf_fr ef100 n5).trans ((upf_fr ef98 n3).trans ((upf_fr ef4 n4).trans ((hGhIy2 k n3))))), (by omega), trivial⟩
        · skip
          refine pe_iconstv (n := 1) (v := 1) (by decide +kernel) (by decide +kernel) ?_
          refine pe_goto (off := 4) (t := 17) (by decide +kernel) (by decide) rfl ?_
          refine pe_iret (by decide +kernel) rfl rfl ⟨rfl, rfl, ?_⟩
          show pmE pg X pg_tyl pg_cl (d + 2) 201 72 [.ref 147, .int v11, pm_dead] [.int 1] (md wc f4 A) _
          refine pz_if_eq (off := 111) (t := 183) (by decide +kernel) (by decide) rfl kz_1 (fun h103 => by omega) (fun h103 => ?_)
          refine pe_iconstv (n := 0) (v := 0) (by decide +kernel) (by decide +kernel) ?_
          refine pe_istore_n (j := 2) (ls' := [.ref 147, .int v11, .int 0]) (by decide +kernel) (Nat.le_of_ble_eq_true rfl) rfl ?_
          refine pe_aload_n (j := 0) (by decide +kernel) rfl ?_
          refine pe_aload_n (j := 0) (by decide +kernel) rfl ?_
          refine pe_get (j := 83) (ci := 12) (n := 3) (by decide +kernel) (by decide +kernel) (md_o hc) rfl ?_
          refine pe_top (v := (f1 3)) (upf_fr ef4 (by decide)) ?_
          refine pi_V (j := 86) (mj := 202) (by decide +kernel) (cll_V (args := [.int (f1 3)]) (n := 1) (by decide +kernel) rfl rfl (md_o hc) (by decide +kernel) (Nat.le_of_ble_eq_true rfl) (Nat.le_of_ble_eq_true rfl)) ?_
          show pmE pg X pg_tyl pg_cl (d + 1) 202 0 [.ref 147, .int (f1 3)] [] (md wc f4 A) _
          refine pe_iload_n (j := 1) (by decide +kernel) rfl ?_
          refine pe_aload_n (j := 0) (by decide +kernel) rfl ?_
          refine pe_get (j := 75) (ci := 12) (n := 2) (by decide +kernel) (by decide +kernel) (md_o hc) rfl ?_
          refine pe_top (v := (f 2)) ((upf_fr ef4 (by decide)).trans ((hGhIy2 2 (by decide)))) ?_
          refine pz_icmp_ge (off := 15) (t := 20) (by decide +kernel) (by decide) rfl rfl rfl (fun h104 => ?_) (fun h104 => ?_)
          · skip
            refine pe_iconstv (n := (-1)) (v := (-1)) (by decide +kernel) (by decide +kernel) ?_
            refine pe_iret (by decide +kernel) rfl rfl ⟨rfl, rfl, ?_⟩
            show pmE pg X pg_tyl pg_cl (d + 2) 201 85 [.ref 147, .int v11, .int 0] [.int (-1)] (md wc f4 A) _
            refine pi_S (j := 96) (mj := 203) (by decide +kernel) (by decide +kernel) rfl ?_
            show pmE pg X pg_tyl pg_cl (d + 1) 203 0 [.int (-1)] [] (md wc f4 A) _
            refine pe_iload_n (j := 0) (by decide +kernel) rfl ?_
            refine pe_bipushv (n := 97) (v := 97) (by decide +kernel) (by decide +kernel) ?_
            refine pz_icmp_lt (off := 13) (t := 16) (by decide +kernel) (by decide) rfl kz_m1 kz_97 (fun h105 => ?_) (fun h105 => by omega)
            refine pe_iconstv (n := 0) (v := 0) (by decide +kernel) (by decide +kernel) ?_
            refine pe_iret (by decide +kernel) rfl rfl ⟨rfl, rfl, ?_⟩
            show pmE pg X pg_tyl pg_cl (d + 2) 201 88 [.ref 147, .int v11, .int 0] [.int 0] (md wc f4 A) _
            refine pz_if_eq (off := 47) (t := 135) (by decide +kernel) (by decide) rfl kz_0 (fun h106 => ?_) (fun h106 => by omega)
            refine pe_aload_n (j := 0) (by decide +kernel) rfl ?_
            refine pe_aload_n (j := 0) (by decide +kernel) rfl ?_
            refine pe_get (j := 83) (ci := 12) (n := 3) (by decide +kernel) (by decide +kernel) (md_o hc) rfl ?_
            refine pe_top (v := (f1 3)) (upf_fr ef4 (by decide)) ?_
            refine pe_aload_n (j := 0) (by decide +kernel) rfl ?_
            refine pe_get (j := 90) (ci := 12) (n := 4) (by decide +kernel) (by decide +kernel) (md_o hc) rfl ?_
            refine pe_top (v := (f1 3)) (upf_at ef4) ?_
            refine pz_sub (by decide +kernel) rfl rfl (by omega) (by omega) (fun z107 hz107 => ?_)
            refine pe_bipushv (n := 6) (v := 6) (by decide +kernel) (by decide +kernel) ?_
            refine pz_icmp_le (off := 8) (t := 155) (by decide +kernel) (by decide) rfl hz107 kz_6 (fun h108 => ?_) (fun h108 => by omega)
            clear hz107
            refine pe_iload_n (j := 2) (by decide +kernel) rfl ?_
            refine pi_S (j := 100) (mj := 204) (by decide +kernel) (by decide +kernel) rfl ?_
            show pmE pg X pg_tyl pg_cl (d + 1) 204 0 [.int 0] [] (md wc f4 A) _
            refine pe_iload_n (j := 0) (by decide +kernel) rfl ?_
            refine pe_bipushv (n := 16) (v := 16) (by decide +kernel) (by decide +kernel) ?_
            refine pe_iconstv (n := 5) (v := 5) (by decide +kernel) (by decide +kernel) ?_
            refine pe_bipushv (n := 15) (v := 15) (by decide +kernel) (by decide +kernel) ?_
            refine pi_S (j := 78) (mj := 205) (by decide +kernel) (by decide +kernel) rfl ?_
            show pmE pg X pg_tyl pg_cl (d) 205 0 [.int 16, .int 5, .int 15] [] (md wc f4 A) _
            refine pe_iload_n (j := 0) (by decide +kernel) rfl ?_
            refine pe_bipushv (n := 32) (v := 32) (by decide +kernel) (by decide +kernel) ?_
            refine pe_imul (by decide +kernel) ?_
            refine pe_top (v := 512) (by decide +kernel) ?_
            refine pe_iload_n (j := 1) (by decide +kernel) rfl ?_
            refine pe_iadd (by decide +kernel) ?_
            refine pe_top (v := 517) (by decide +kernel) ?_
            refine pe_bipushv (n := 32) (v := 32) (by decide +kernel) (by decide +kernel) ?_
            refine pe_imul (by decide +kernel) ?_
            refine pe_top (v := 16544) (by decide +kernel) ?_
            refine pe_iload_n (j := 2) (by decide +kernel) rfl ?_
            refine pe_iadd (by decide +kernel) ?_
            refine pe_top (v := 16559) (by decide +kernel) ?_
            refine pe_iret (by decide +kernel) rfl rfl ⟨rfl, rfl, ?_⟩
            show pmE pg X pg_tyl pg_cl (d + 1) 204 9 [.int 0] [.int 16559, .int 0] (md wc f4 A) _
            refine pe_ldc (j := 82) (v := 32768) (by decide +kernel) (by decide +kernel) ?_
            refine pe_imul (by decide +kernel) ?_
            refine pe_top (v := 542605312) (by decide +kernel) ?_
            refine pe_bipushv (n := 16) (v := 16) (by decide +kernel) (by decide +kernel) ?_
            refine pe_bipushv (n := 12) (v := 12) (by decide +kernel) (by decide +kernel) ?_
            refine pe_iconstv (n := 5) (v := 5) (by decide +kernel) (by decide +kernel) ?_
            refine pi_S (j := 78) (mj := 205) (by decide +kernel) (by decide +kernel) rfl ?_
            show pmE pg X pg_tyl pg_cl (d) 205 0 [.int 16, .int 12, .int 5] [] (md wc f4 A) _
            refine pe_iload_n (j := 0) (by decide +kernel) rfl ?_
            refine pe_bipushv (n := 32) (v := 32) (by decide +kernel) (by decide +kernel) ?_
            refine pe_imul (by decide +kernel) ?_
            refine pe_top (v := 512) (by decide +kernel) ?_
            refine pe_iload_n (j := 1) (by decide +kernel) rfl ?_
            refine pe_iadd (by decide +kernel) ?_
            refine pe_top (v := 524) (by decide +kernel) ?_
            refine pe_bipushv (n := 32) (v := 32) (by decide +kernel) (by decide +kernel) ?_
            refine pe_imul (by decide +kernel) ?_
            refine pe_top (v := 16768) (by decide +kernel) ?_
            refine pe_iload_n (j := 2) (by decide +kernel) rfl ?_
            refine pe_iadd (by decide +kernel) ?_
            refine pe_top (v := 16773) (by decide +kernel) ?_
            refine pe_iret (by decide +kernel) rfl rfl ⟨rfl, rfl, ?_⟩
            show pmE pg X pg_tyl pg_cl (d + 1) 204 20 [.int 0] [.int 16773, .int 542605312, .int 0] (md wc f4 A) _
            refine pe_iadd (by decide +kernel) ?_
            refine pe_top (v := 542622085) (by decide +kernel) ?_
            refine pz_icmp_ne (off := 5) (t := 26) (by decide +kernel) (by decide) rfl kz_0 kz_542622085 (fun h119 => ?_) (fun h119 => by omega)
            refine pe_iload_n (j := 0) (by decide +kernel) rfl ?_
            refine pe_bipushv (n := 23) (v := 23) (by decide +kernel) (by decide +kernel) ?_
            refine pe_bipushv (n := 15) (v := 15) (by decide +kernel) (by decide +kernel) ?_
            refine pe_bipushv (n := 18) (v := 18) (by decide +kernel) (by decide +kernel) ?_
            refine pi_S (j := 78) (mj := 205) (by decide +kernel) (by decide +kernel) rfl ?_
            show pmE pg X pg_tyl pg_cl (d) 205 0 [.int 23, .int 15, .int 18] [] (md wc f4 A) _
            refine pe_iload_n (j := 0) (by decide +kernel) rfl ?_
            refine pe_bipushv (n := 32) (v := 32) (by decide +kernel) (by decide +kernel) ?_
            refine pe_imul (by decide +kernel) ?_
            refine pe_top (v := 736) (by decide +kernel) ?_
            refine pe_iload_n (j := 1) (by decide +kernel) rfl ?_
            refine pe_iadd (by decide +kernel) ?_
            refine pe_top (v := 751) (by decide +kernel) ?_
            refine pe_bipushv (n := 32) (v := 32) (by decide +kernel) (by decide +kernel) ?_
            refine pe_imul (by decide +kernel) ?_
            refine pe_top (v := 24032) (by decide +kernel) ?_
            refine pe_iload_n (j := 2) (by decide +kernel) rfl ?_
            refine pe_iadd (by decide +kernel) ?_
            refine pe_top (v := 24050) (by decide +kernel) ?_
            refine pe_iret (by decide +kernel) rfl rfl ⟨rfl, rfl, ?_⟩
            show pmE pg X pg_tyl pg_cl (d + 1) 204 36 [.int 0] [.int 24050, .int 0] (md wc f4 A) _
            refine pe_bipushv (n := 32) (v := 32) (by decide +kernel) (by decide +kernel) ?_
            refine pe_imul (by decide +kernel) ?_
            refine pe_top (v := 769600) (by decide +kernel) ?_
            refine pe_iconstv (n := 4) (v := 4) (by decide +kernel) (by decide +kernel) ?_
            refine pe_iadd (by decide +kernel) ?_
            refine pe_top (v := 769604) (by decide +kernel) ?_
            refine pz_icmp_ne (off := 5) (t := 46) (by decide +kernel) (by decide) rfl kz_0 kz_769604 (fun h126 => ?_) (fun h126 => by omega)
            refine pe_iload_n (j := 0) (by decide +kernel) rfl ?_
            refine pe_iconstv (n := 1) (v := 1) (by decide +kernel) (by decide +kernel) ?_
            refine pe_bipushv (n := 12) (v := 12) (by decide +kernel) (by decide +kernel) ?_
            refine pe_bipushv (n := 12) (v := 12) (by decide +kernel) (by decide +kernel) ?_
            refine pi_S (j := 78) (mj := 205) (by decide +kernel) (by decide +kernel) rfl ?_
            show pmE pg X pg_tyl pg_cl (d) 205 0 [.int 1, .int 12, .int 12] [] (md wc f4 A) _
            refine pe_iload_n (j := 0) (by decide +kernel) rfl ?_
            refine pe_bipushv (n := 32) (v := 32) (by decide +kernel) (by decide +kernel) ?_
            refine pe_imul (by decide +kernel) ?_
            refine pe_top (v := 32) (by decide +kernel) ?_
            refine pe_iload_n (j := 1) (by decide +kernel) rfl ?_
            refine pe_iadd (by decide +kernel) ?_
            refine pe_top (v := 44) (by decide +kernel) ?_
            refine pe_bipushv (n := 32) (v := 32) (by decide +kernel) (by decide +kernel) ?_
            refine pe_imul (by decide +kernel) ?_
            refine pe_top (v := 1408) (by decide +kernel) ?_
            refine pe_iload_n (j := 2) (by decide +kernel) rfl ?_
            refine pe_iadd (by decide +kernel) ?_
            refine pe_top (v := 1420) (by decide +kernel) ?_
            refine pe_iret (by decide +kernel) rfl rfl ⟨rfl, rfl, ?_⟩
            show pmE pg X pg_tyl pg_cl (d + 1) 204 55 [.int 0] [.int 1420, .int 0] (md wc f4 A) _
            refine pz_icmp_ne (off := 5) (t := 60) (by decide +kernel) (by decide) rfl kz_0 kz_1420 (fun h131 => ?_) (fun h131 => by omega)
            refine pe_iload_n (j := 0) (by decide +kernel) rfl ?_
            refine pe_bipushv (n := 6) (v := 6) (by decide +kernel) (by decide +kernel) ?_
            refine pe_iconstv (n := 5) (v := 5) (by decide +kernel) (by decide +kernel) ?_
            refine pe_iconstv (n := 5) (v := 5) (by decide +kernel) (by decide +kernel) ?_
            refine pi_S (j := 78) (mj := 205) (by decide +kernel) (by decide +kernel) rfl ?_
            show pmE pg X pg_tyl pg_cl (d) 205 0 [.int 6, .int 5, .int 5] [] (md wc f4 A) _
            refine pe_iload_n (j := 0) (by decide +kernel) rfl ?_
            refine pe_bipushv (n := 32) (v := 32) (by decide +kernel) (by decide +kernel) ?_
            refine pe_imul (by decide +kernel) ?_
            refine pe_top (v := 192) (by decide +kernel) ?_
            refine pe_iload_n (j := 1) (by decide +kernel) rfl ?_
            refine pe_iadd (by decide +kernel) ?_
            refine pe_top (v := 197) (by decide +kernel) ?_
            refine pe_bipushv (n := 32) (v := 32) (by decide +kernel) (by decide +kernel) ?_
            refine pe_imul (by decide +kernel) ?_
            refine pe_top (v := 6304) (by decide +kernel) ?_
            refine pe_iload_n (j := 2) (by decide +kernel) rfl ?_
            refine pe_iadd (by decide +kernel) ?_
            refine pe_top (v := 6309) (by decide +kernel) ?_
            refine pe_iret (by decide +kernel) rfl rfl ⟨rfl, rfl, ?_⟩
            show pmE pg X pg_tyl pg_cl (d + 1) 204 68 [.int 0] [.int 6309, .int 0] (md wc f4 A) _
            refine pz_icmp_ne (off := 5) (t := 73) (by decide +kernel) (by decide) rfl kz_0 kz_6309 (fun h136 => ?_) (fun h136 => by omega)
            refine pe_iload_n (j := 0) (by decide +kernel) rfl ?_
            refine pe_bipushv (n := 18) (v := 18) (by decide +kernel) (by decide +kernel) ?_
            refine pe_bipushv (n := 9) (v := 9) (by decide +kernel) (by decide +kernel) ?_
            refine pe_bipushv (n := 19) (v := 19) (by decide +kernel) (by decide +kernel) ?_
            refine pi_S (j := 78) (mj := 205) (by decide +kernel) (by decide +kernel) rfl ?_
            show pmE pg X pg_tyl pg_cl (d) 205 0 [.int 18, .int 9, .int 19] [] (md wc f4 A) _
            refine pe_iload_n (j := 0) (by decide +kernel) rfl ?_
            refine pe_bipushv (n := 32) (v := 32) (by decide +kernel) (by decide +kernel) ?_
            refine pe_imul (by decide +kernel) ?_
            refine pe_top (v := 576) (by decide +kernel) ?_
            refine pe_iload_n (j := 1) (by decide +kernel) rfl ?_
            refine pe_iadd (by decide +kernel) ?_
            refine pe_top (v := 585) (by decide +kernel) ?_
            refine pe_bipushv (n := 32) (v := 32) (by decide +kernel) (by decide +kernel) ?_
            refine pe_imul (by decide +kernel) ?_
            refine pe_top (v := 18720) (by decide +kernel) ?_
            refine pe_iload_n (j := 2) (by decide +kernel) rfl ?_
            refine pe_iadd (by decide +kernel) ?_
            refine pe_top (v := 18739) (by decide +kernel) ?_
            refine pe_iret (by decide +kernel) rfl rfl ⟨rfl, rfl, ?_⟩
            show pmE pg X pg_tyl pg_cl (d + 1) 204 83 [.int 0] [.int 18739, .int 0] (md wc f4 A) _
            refine pe_bipushv (n := 32) (v := 32) (by decide +kernel) (by decide +kernel) ?_
            refine pe_imul (by decide +kernel) ?_
            refine pe_top (v := 599648) (by decide +kernel) ?_
            refine pe_bipushv (n := 11) (v := 11) (by decide +kernel) (by decide +kernel) ?_
            refine pe_iadd (by decide +kernel) ?_
            refine pe_top (v := 599659) (by decide +kernel) ?_
            refine pz_icmp_ne (off := 5) (t := 94) (by decide +kernel) (by decide) rfl kz_0 kz_599659 (fun h143 => ?_) (fun h143 => by omega)
            refine pe_iload_n (j := 0) (by decide +kernel) rfl ?_
            refine pe_bipushv (n := 19) (v := 19) (by decide +kernel) (by decide +kernel) ?_
            refine pe_bipushv (n := 12) (v := 12) (by decide +kernel) (by decide +kernel) ?_
            refine pe_iconstv (n := 1) (v := 1) (by decide +kernel) (by decide +kernel) ?_
            refine pi_S (j := 78) (mj := 205) (by decide +kernel) (by decide +kernel) rfl ?_
            show pmE pg X pg_tyl pg_cl (d) 205 0 [.int 19, .int 12, .int 1] [] (md wc f4 A) _
            refine pe_iload_n (j := 0) (by decide +kernel) rfl ?_
            refine pe_bipushv (n := 32) (v := 32) (by decide +kernel) (by decide +kernel) ?_
            refine pe_imul (by decide +kernel) ?_
            refine pe_top (v := 608) (by decide +kernel) ?_
            refine pe_iload_n (j := 1) (by decide +kernel) rfl ?_
            refine pe_iadd (by decide +kernel) ?_
            refine pe_top (v := 620) (by decide +kernel) ?_
            refine pe_bipushv (n := 32) (v := 32) (by decide +kernel) (by decide +kernel) ?_
            refine pe_imul (by decide +kernel) ?_
            refine pe_top (v := 19840) (by decide +kernel) ?_
            refine pe_iload_n (j := 2) (by decide +kernel) rfl ?_
            refine pe_iadd (by decide +kernel) ?_
            refine pe_top (v := 19841) (by decide +kernel) ?_
            refine pe_iret (by decide +kernel) rfl rfl ⟨rfl, rfl, ?_⟩
            show pmE pg X pg_tyl pg_cl (d + 1) 204 103 [.int 0] [.int 19841, .int 0] (md wc f4 A) _
            refine pe_sipushv (n := 1024) (v := 1024) (by decide +kernel) (by decide +kernel) ?_
            refine pe_imul (by decide +kernel) ?_
            refine pe_top (v := 20317184) (by decide +kernel) ?_
            refine pe_bipushv (n := 96) (v := 96) (by decide +kernel) (by decide +kernel) ?_
            refine pe_iadd (by decide +kernel) ?_
            refine pe_top (v := 20317280) (by decide +kernel) ?_
            refine pe_bipushv (n := 11) (v := 11) (by decide +kernel) (by decide +kernel) ?_
            refine pe_iadd (by decide +kernel) ?_
            refine pe_top (v := 20317291) (by decide +kernel) ?_
            refine pz_icmp_ne (off := 6) (t := 119) (by decide +kernel) (by decide) rfl kz_0 kz_20317291 (fun h151 => ?_) (fun h151 => by omega)
            refine pe_iload_n (j := 0) (by decide +kernel) rfl ?_
            refine pe_bipushv (n := 23) (v := 23) (by decide +kernel) (by decide +kernel) ?_
            refine pe_iconstv (n := 1) (v := 1) (by decide +kernel) (by decide +kernel) ?_
            refine pe_bipushv (n := 14) (v := 14) (by decide +kernel) (by decide +kernel) ?_
            refine pi_S (j := 78) (mj := 205) (by decide +kernel) (by decide +kernel) rfl ?_
            show pmE pg X pg_tyl pg_cl (d) 205 0 [.int 23, .int 1, .int 14] [] (md wc f4 A) _
            refine pe_iload_n (j := 0) (by decide +kernel) rfl ?_
            refine pe_bipushv (n := 32) (v := 32) (by decide +kernel) (by decide +kernel) ?_
            refine pe_imul (by decide +kernel) ?_
            refine pe_top (v := 736) (by decide +kernel) ?_
            refine pe_iload_n (j := 1) (by decide +kernel) rfl ?_
            refine pe_iadd (by decide +kernel) ?_
            refine pe_top (v := 737) (by decide +kernel) ?_
            refine pe_bipushv (n := 32) (v := 32) (by decide +kernel) (by decide +kernel) ?_
            refine pe_imul (by decide +kernel) ?_
            refine pe_top (v := 23584) (by decide +kernel) ?_
            refine pe_iload_n (j := 2) (by decide +kernel) rfl ?_
            refine pe_iadd (by decide +kernel) ?_
            refine pe_top (v := 23598) (by decide +kernel) ?_
            refine pe_iret (by decide +kernel) rfl rfl ⟨rfl, rfl, ?_⟩
            show pmE pg X pg_tyl pg_cl (d + 1) 204 128 [.int 0] [.int 23598, .int 0] (md wc f4 A) _
            refine pe_bipushv (n := 32) (v := 32) (by decide +kernel) (by decide +kernel) ?_
            refine pe_imul (by decide +kernel) ?_
            refine pe_top (v := 755136) (by decide +kernel) ?_
            refine pe_bipushv (n := 20) (v := 20) (by decide +kernel) (by decide +kernel) ?_
            refine pe_iadd (by decide +kernel) ?_
            refine pe_top (v := 755156) (by decide +kernel) ?_
            refine pz_icmp_ne (off := 6) (t := 140) (by decide +kernel) (by decide) rfl kz_0 kz_755156 (fun h158 => ?_) (fun h158 => by omega)
            refine pe_iload_n (j := 0) (by decide +kernel) rfl ?_
            refine pe_bipushv (n := 15) (v := 15) (by decide +kernel) (by decide +kernel) ?_
            refine pe_bipushv (n := 23) (v := 23) (by decide +kernel) (by decide +kernel) ?_
            refine pe_iconstv (n := 5) (v := 5) (by decide +kernel) (by decide +kernel) ?_
            refine pi_S (j := 78) (mj := 205) (by decide +kernel) (by decide +kernel) rfl ?_
            show pmE pg X pg_tyl pg_cl (d) 205 0 [.int 15, .int 23, .int 5] [] (md wc f4 A) _
            refine pe_iload_n (j := 0) (by decide +kernel) rfl ?_
            refine pe_bipushv (n := 32) (v := 32) (by decide +kernel) (by decide +kernel) ?_
            refine pe_imul (by decide +kernel) ?_
            refine pe_top (v := 480) (by decide +kernel) ?_
            refine pe_iload_n (j := 1) (by decide +kernel) rfl ?_
            refine pe_iadd (by decide +kernel) ?_
            refine pe_top (v := 503) (by decide +kernel) ?_
            refine pe_bipushv (n := 32) (v := 32) (by decide +kernel) (by decide +kernel) ?_
            refine pe_imul (by decide +kernel) ?_
            refine pe_top (v := 16096) (by decide +kernel) ?_
            refine pe_iload_n (j := 2) (by decide +kernel) rfl ?_
            refine pe_iadd (by decide +kernel) ?_
            refine pe_top (v := 16101) (by decide +kernel) ?_
            refine pe_iret (by decide +kernel) rfl rfl ⟨rfl, rfl, ?_⟩
            show pmE pg X pg_tyl pg_cl (d + 1) 204 149 [.int 0] [.int 16101, .int 0] (md wc f4 A) _
            refine pz_icmp_ne (off := 6) (t := 155) (by decide +kernel) (by decide) rfl kz_0 kz_16101 (fun h163 => ?_) (fun h163 => by omega)
            refine pe_iload_n (j := 0) (by decide +kernel) rfl ?_
            refine pe_bipushv (n := 16) (v := 16) (by decide +kernel) (by decide +kernel) ?_
            refine pe_iconstv (n := 1) (v := 1) (by decide +kernel) (by decide +kernel) ?_
            refine pe_bipushv (n := 25) (v := 25) (by decide +kernel) (by decide +kernel) ?_
            refine pi_S (j := 78) (mj := 205) (by decide +kernel) (by decide +kernel) rfl ?_
            show pmE pg X pg_tyl pg_cl (d) 205 0 [.int 16, .int 1, .int 25] [] (md wc f4 A) _
            refine pe_iload_n (j := 0) (by decide +kernel) rfl ?_
            refine pe_bipushv (n := 32) (v := 32) (by decide +kernel) (by decide +kernel) ?_
            refine pe_imul (by decide +kernel) ?_
            refine pe_top (v := 512) (by decide +kernel) ?_
            refine pe_iload_n (j := 1) (by decide +kernel) rfl ?_
            refine pe_iadd (by decide +kernel) ?_
            refine pe_top (v := 513) (by decide +kernel) ?_
            refine pe_bipushv (n := 32) (v := 32) (by decide +kernel) (by decide +kernel) ?_
            refine pe_imul (by decide +kernel) ?_
            refine pe_top (v := 16416) (by decide +kernel) ?_
            refine pe_iload_n (j := 2) (by decide +kernel) rfl ?_
            refine pe_iadd (by decide +kernel) ?_
            refine pe_top (v := 16441) (by decide +kernel) ?_
            refine pe_iret (by decide +kernel) rfl rfl ⟨rfl, rfl, ?_⟩
            show pmE pg X pg_tyl pg_cl (d + 1) 204 164 [.int 0] [.int 16441, .int 0] (md wc f4 A) _
            refine pz_icmp_ne (off := 6) (t := 170) (by decide +kernel) (by decide) rfl kz_0 kz_16441 (fun h168 => ?_) (fun h168 => by omega)
            refine pe_iload_n (j := 0) (by decide +kernel) rfl ?_
            refine pe_bipushv (n := 18) (v := 18) (by decide +kernel) (by decide +kernel) ?_
            refine pe_bipushv (n := 9) (v := 9) (by decide +kernel) (by decide +kernel) ?_
            refine pe_bipushv (n := 14) (v := 14) (by decide +kernel) (by decide +kernel) ?_
            refine pi_S (j := 78) (mj := 205) (by decide +kernel) (by decide +kernel) rfl ?_
            show pmE pg X pg_tyl pg_cl (d) 205 0 [.int 18, .int 9, .int 14] [] (md wc f4 A) _
            refine pe_iload_n (j := 0) (by decide +kernel) rfl ?_
            refine pe_bipushv (n := 32) (v := 32) (by decide +kernel) (by decide +kernel) ?_
            refine pe_imul (by decide +kernel) ?_
            refine pe_top (v := 576) (by decide +kernel) ?_
            refine pe_iload_n (j := 1) (by decide +kernel) rfl ?_
            refine pe_iadd (by decide +kernel) ?_
            refine pe_top (v := 585) (by decide +kernel) ?_
            refine pe_bipushv (n := 32) (v := 32) (by decide +kernel) (by decide +kernel) ?_
            refine pe_imul (by decide +kernel) ?_
            refine pe_top (v := 18720) (by decide +kernel) ?_
            refine pe_iload_n (j := 2) (by decide +kernel) rfl ?_
            refine pe_iadd (by decide +kernel) ?_
            refine pe_top (v := 18734) (by decide +kernel) ?_
            refine pe_iret (by decide +kernel) rfl rfl ⟨rfl, rfl, ?_⟩
            show pmE pg X pg_tyl pg_cl (d + 1) 204 180 [.int 0] [.int 18734, .int 0] (md wc f4 A) _
            refine pe_bipushv (n := 32) (v := 32) (by decide +kernel) (by decide +kernel) ?_
            refine pe_imul (by decide +kernel) ?_
            refine pe_top (v := 599488) (by decide +kernel) ?_
            refine pe_bipushv (n := 7) (v := 7) (by decide +kernel) (by decide +kernel) ?_
            refine pe_iadd (by decide +kernel) ?_
            refine pe_top (v := 599495) (by decide +kernel) ?_
            refine pz_icmp_ne (off := 6) (t := 192) (by decide +kernel) (by decide) rfl kz_0 kz_599495 (fun h175 => ?_) (fun h175 => by omega)
            refine pe_iload_n (j := 0) (by decide +kernel) rfl ?_
            refine pe_bipushv (n := 19) (v := 19) (by decide +kernel) (by decide +kernel) ?_
            refine pe_bipushv (n := 20) (v := 20) (by decide +kernel) (by decide +kernel) ?_
            refine pe_bipushv (n := 18) (v := 18) (by decide +kernel) (by decide +kernel) ?_
            refine pi_S (j := 78) (mj := 205) (by decide +kernel) (by decide +kernel) rfl ?_
            show pmE pg X pg_tyl pg_cl (d) 205 0 [.int 19, .int 20, .int 18] [] (md wc f4 A) _
            refine pe_iload_n (j := 0) (by decide +kernel) rfl ?_
            refine pe_bipushv (n := 32) (v := 32) (by decide +kernel) (by decide +kernel) ?_
            refine pe_imul (by decide +kernel) ?_
            refine pe_top (v := 608) (by decide +kernel) ?_
            refine pe_iload_n (j := 1) (by decide +kernel) rfl ?_
            refine pe_iadd (by decide +kernel) ?_
            refine pe_top (v := 628) (by decide +kernel) ?_
            refine pe_bipushv (n := 32) (v := 32) (by decide +kernel) (by decide +kernel) ?_
            refine pe_imul (by decide +kernel) ?_
            refine pe_top (v := 20096) (by decide +kernel) ?_
            refine pe_iload_n (j := 2) (by decide +kernel) rfl ?_
            refine pe_iadd (by decide +kernel) ?_
            refine pe_top (v := 20114) (by decide +kernel) ?_
            refine pe_iret (by decide +kernel) rfl rfl ⟨rfl, rfl, ?_⟩
            show pmE pg X pg_tyl pg_cl (d + 1) 204 202 [.int 0] [.int 20114, .int 0] (md wc f4 A) _
            refine pe_ldc (j := 82) (v := 32768) (by decide +kernel) (by decide +kernel) ?_
            refine pe_imul (by decide +kernel) ?_
            refine pe_top (v := 659095552) (by decide +kernel) ?_
            refine pe_bipushv (n := 9) (v := 9) (by decide +kernel) (by decide +kernel) ?_
            refine pe_bipushv (n := 11) (v := 11) (by decide +kernel) (by decide +kernel) ?_
            refine pe_iconstv (n := 5) (v := 5) (by decide +kernel) (by decide +kernel) ?_
            refine pi_S (j := 78) (mj := 205) (by decide +kernel) (by decide +kernel) rfl ?_
            show pmE pg X pg_tyl pg_cl (d) 205 0 [.int 9, .int 11, .int 5] [] (md wc f4 A) _
            refine pe_iload_n (j := 0) (by decide +kernel) rfl ?_
            refine pe_bipushv (n := 32) (v := 32) (by decide +kernel) (by decide +kernel) ?_
            refine pe_imul (by decide +kernel) ?_
            refine pe_top (v := 288) (by decide +kernel) ?_
            refine pe_iload_n (j := 1) (by decide +kernel) rfl ?_
            refine pe_iadd (by decide +kernel) ?_
            refine pe_top (v := 299) (by decide +kernel) ?_
            refine pe_bipushv (n := 32) (v := 32) (by decide +kernel) (by decide +kernel) ?_
            refine pe_imul (by decide +kernel) ?_
            refine pe_top (v := 9568) (by decide +kernel) ?_
            refine pe_iload_n (j := 2) (by decide +kernel) rfl ?_
            refine pe_iadd (by decide +kernel) ?_
            refine pe_top (v := 9573) (by decide +kernel) ?_
            refine pe_iret (by decide +kernel) rfl rfl ⟨rfl, rfl, ?_⟩
            show pmE pg X pg_tyl pg_cl (d + 1) 204 213 [.int 0] [.int 9573, .int 659095552, .int 0] (md wc f4 A) _
            refine pe_iadd (by decide +kernel) ?_
            refine pe_top (v := 659105125) (by decide +kernel) ?_
            refine pz_icmp_ne (off := 6) (t := 220) (by decide +kernel) (by decide) rfl kz_0 kz_659105125 (fun h186 => ?_) (fun h186 => by omega)
            refine pe_iload_n (j := 0) (by decide +kernel) rfl ?_
            refine pe_bipushv (n := 6) (v := 6) (by decide +kernel) (by decide +kernel) ?_
            refine pe_iconstv (n := 1) (v := 1) (by decide +kernel) (by decide +kernel) ?_
            refine pe_bipushv (n := 9) (v := 9) (by decide +kernel) (by decide +kernel) ?_
            refine pi_S (j := 78) (mj := 205) (by decide +kernel) (by decide +kernel) rfl ?_
            show pmE pg X pg_tyl pg_cl (d) 205 0 [.int 6, .int 1, .int 9] [] (md wc f4 A) _
            refine pe_iload_n (j := 0) (by decide +kernel) rfl ?_
            refine pe_bipushv (n := 32) (v := 32) (by decide +kernel) (by decide +kernel) ?_
            refine pe_imul (by decide +kernel) ?_
            refine pe_top (v := 192) (by decide +kernel) ?_
            refine pe_iload_n (j := 1) (by decide +kernel) rfl ?_
            refine pe_iadd (by decide +kernel) ?_
            refine pe_top (v := 193) (by decide +kernel) ?_
            refine pe_bipushv (n := 32) (v := 32) (by decide +kernel) (by decide +kernel) ?_
            refine pe_imul (by decide +kernel) ?_
            refine pe_top (v := 6176) (by decide +kernel) ?_
            refine pe_iload_n (j := 2) (by decide +kernel) rfl ?_
            refine pe_iadd (by decide +kernel) ?_
            refine pe_top (v := 6185) (by decide +kernel) ?_
            refine pe_iret (by decide +kernel) rfl rfl ⟨rfl, rfl, ?_⟩
            show pmE pg X pg_tyl pg_cl (d + 1) 204 229 [.int 0] [.int 6185, .int 0] (md wc f4 A) _
            refine pe_bipushv (n := 32) (v := 32) (by decide +kernel) (by decide +kernel) ?_
            refine pe_imul (by decide +kernel) ?_
            refine pe_top (v := 197920) (by decide +kernel) ?_
            refine pe_bipushv (n := 12) (v := 12) (by decide +kernel) (by decide +kernel) ?_
            refine pe_iadd (by decide +kernel) ?_
            refine pe_top (v := 197932) (by decide +kernel) ?_
            refine pz_icmp_ne (off := 6) (t := 241) (by decide +kernel) (by decide) rfl kz_0 kz_197932 (fun h193 => ?_) (fun h193 => by omega)
            refine pe_iload_n (j := 0) (by decide +kernel) rfl ?_
            refine pe_bipushv (n := 13) (v := 13) (by decide +kernel) (by decide +kernel) ?_
            refine pe_bipushv (n := 15) (v := 15) (by decide +kernel) (by decide +kernel) ?_
            refine pe_bipushv (n := 14) (v := 14) (by decide +kernel) (by decide +kernel) ?_
            refine pi_S (j := 78) (mj := 205) (by decide +kernel) (by decide +kernel) rfl ?_
            show pmE pg X pg_tyl pg_cl (d) 205 0 [.int 13, .int 15, .int 14] [] (md wc f4 A) _
            refine pe_iload_n (j := 0) (by decide +kernel) rfl ?_
            refine pe_bipushv (n := 32) (v := 32) (by decide +kernel) (by decide +kernel) ?_
            refine pe_imul (by decide +kernel) ?_
            refine pe_top (v := 416) (by decide +kernel) ?_
            refine pe_iload_n (j := 1) (by decide +kernel) rfl ?_
            refine pe_iadd (by decide +kernel) ?_
            refine pe_top (v := 431) (by decide +kernel) ?_
            refine pe_bipushv (n := 32) (v := 32) (by decide +kernel) (by decide +kernel) ?_
            refine pe_imul (by decide +kernel) ?_
            refine pe_top (v := 13792) (by decide +kernel) ?_
            refine pe_iload_n (j := 2) (by decide +kernel) rfl ?_
            refine pe_iadd (by decide +kernel) ?_
            refine pe_top (v := 13806) (by decide +kernel) ?_
            refine pe_iret (by decide +kernel) rfl rfl ⟨rfl, rfl, ?_⟩
            show pmE pg X pg_tyl pg_cl (d + 1) 204 251 [.int 0] [.int 13806, .int 0] (md wc f4 A) _
            refine pe_sipushv (n := 1024) (v := 1024) (by decide +kernel) (by decide +kernel) ?_
            refine pe_imul (by decide +kernel) ?_
            refine pe_top (v := 14137344) (by decide +kernel) ?_
            refine pe_sipushv (n := 640) (v := 640) (by decide +kernel) (by decide +kernel) ?_
            refine pe_iadd (by decide +kernel) ?_
            refine pe_top (v := 14137984) (by decide +kernel) ?_
            refine pe_bipushv (n := 8) (v := 8) (by decide +kernel) (by decide +kernel) ?_
            refine pe_iadd (by decide +kernel) ?_
            refine pe_top (v := 14137992) (by decide +kernel) ?_
            refine pz_icmp_ne (off := 8) (t := 270) (by decide +kernel) (by decide) rfl kz_0 kz_14137992 (fun h201 => ?_) (fun h201 => by omega)
            refine pe_bipushv (n := 99) (v := 99) (by decide +kernel) (by decide +kernel) ?_
            refine pe_iret (by decide +kernel) rfl rfl ⟨rfl, rfl, ?_⟩
            show pmE pg X pg_tyl pg_cl (d + 2) 201 159 [.ref 147, .int v11, .int 0] [.int 99, .ref 147] (md wc f4 A) _
            refine mz_put7 (jj := 103) (by decide +kernel) (by decide +kernel) hc hIf4 (fun f202 ef202 hIf202 => ?_)
            refine pe_aload_n (j := 0) (by decide +kernel) rfl ?_
            refine pe_aload_n (j := 0) (by decide +kernel) rfl ?_
            refine pe_get (j := 103) (ci := 12) (n := 7) (by decide +kernel) (by decide +kernel) (md_o hc) rfl ?_
            refine pe_top (v := 99) (upf_at ef202) ?_
            refine pe_bipushv (n := 99) (v := 99) (by decide +kernel) (by decide +kernel) ?_
            refine pz_icmp_ne (off := 7) (t := 176) (by decide +kernel) (by decide) rfl kz_99 kz_99 (fun h203 => by omega) (fun h203 => ?_)
            refine pe_iconstv (n := 4) (v := 4) (by decide +kernel) (by decide +kernel) ?_
            refine pe_goto (off := 4) (t := 177) (by decide +kernel) (by decide) rfl ?_
            refine mz_put5 (jj := 93) (by decide +kernel) (by decide +kernel) hc hIf202 (by decide +kernel) (by decide +kernel) (fun f204 ef204 hIf204 => ?_)
            refine pe_goto (off := 128) (t := 308) (by decide +kernel) (by decide) rfl ?_
            have hx205 : (f204 3).toInt = (f1 3).toInt := (congrArg Int32.toInt (show f204 3 = (f1 3) from (upf_fr ef204 (by decide)).trans ((upf_fr ef202 (by decide)).trans (upf_fr ef4 (by decide))))).trans rfl
            have hx206 : (f204 5).toInt = 4 := (congrArg Int32.toInt (show f204 5 = 4 from upf_at ef204)).trans kz_4
            exact pe_vret (by decide +kernel) rfl ⟨f204, rfl, hIf204, (fun k n3 n4 n5 n6 n7 => (upf_fr ef204 n5).trans ((upf_fr ef202 n7).trans ((upf_fr ef4 n4).trans ((hGhIy2 k n3))))), (by omega), trivial⟩
          · skip
            refine pe_aload_n (j := 0) (by decide +kernel) rfl ?_
            refine pe_get (j := 7) (ci := 12) (n := 0) (by decide +kernel) (by decide +kernel) (md_o hc) rfl ?_
            refine pe_bipushv (n := 10) (v := 10) (by decide +kernel) (by decide +kernel) ?_
            refine pe_iload_n (j := 1) (by decide +kernel) rfl ?_
            refine pz_add (by decide +kernel) kz_10 rfl (by omega) (by omega) (fun z207 hz207 => ?_)
            refine mz_ld148 (by decide +kernel) hc hIf4 hz207 (by omega) (by omega) (fun v208 ev208 pv208 => ?_)
            rw [ev208.trans ev11.symm]
            clear pv208 ev208 v208
            clear hz207
            refine pe_goto (off := 4) (t := 21) (by decide +kernel) (by decide) rfl ?_
            refine pe_iret (by decide +kernel) rfl rfl ⟨rfl, rfl, ?_⟩
            show pmE pg X pg_tyl pg_cl (d + 2) 201 85 [.ref 147, .int v11, .int 0] [.int v11] (md wc f4 A) _
            refine pi_S (j := 96) (mj := 203) (by decide +kernel) (by decide +kernel) rfl ?_
            show pmE pg X pg_tyl pg_cl (d + 1) 203 0 [.int v11] [] (md wc f4 A) _
            refine pe_iload_n (j := 0) (by decide +kernel) rfl ?_
            refine pe_bipushv (n := 97) (v := 97) (by decide +kernel) (by decide +kernel) ?_
            refine pz_icmp_lt (off := 13) (t := 16) (by decide +kernel) (by decide) rfl rfl kz_97 (fun h209 => by omega) (fun h209 => ?_)
            refine pe_iload_n (j := 0) (by decide +kernel) rfl ?_
            refine pe_bipushv (n := 122) (v := 122) (by decide +kernel) (by decide +kernel) ?_
            refine pz_icmp_gt (off := 7) (t := 16) (by decide +kernel) (by decide) rfl rfl kz_122 (fun h210 => by omega) (fun h210 => ?_)
            refine pe_iconstv (n := 1) (v := 1) (by decide +kernel) (by decide +kernel) ?_
            refine pe_goto (off := 4) (t := 17) (by decide +kernel) (by decide) rfl ?_
            refine pe_iret (by decide +kernel) rfl rfl ⟨rfl, rfl, ?_⟩
            show pmE pg X pg_tyl pg_cl (d + 2) 201 88 [.ref 147, .int v11, .int 0] [.int 1] (md wc f4 A) _
            refine pz_if_eq (off := 47) (t := 135) (by decide +kernel) (by decide) rfl kz_1 (fun h211 => by omega) (fun h211 => ?_)
            refine pe_aload_n (j := 0) (by decide +kernel) rfl ?_
            refine pe_get (j := 83) (ci := 12) (n := 3) (by decide +kernel) (by decide +kernel) (md_o hc) rfl ?_
            refine pe_top (v := (f1 3)) (upf_fr ef4 (by decide)) ?_
            refine pe_aload_n (j := 0) (by decide +kernel) rfl ?_
            refine pe_get (j := 90) (ci := 12) (n := 4) (by decide +kernel) (by decide +kernel) (md_o hc) rfl ?_
            refine pe_top (v := (f1 3)) (upf_at ef4) ?_
            refine pz_sub (by decide +kernel) rfl rfl (by omega) (by omega) (fun z212 hz212 => ?_)
            refine pe_bipushv (n := 6) (v := 6) (by decide +kernel) (by decide +kernel) ?_
            refine pz_icmp_ge (off := 20) (t := 122) (by decide +kernel) (by decide) rfl hz212 kz_6 (fun h213 => by omega) (fun h213 => ?_)
            clear hz212
            refine pe_bipushv (n := 32) (v := 32) (by decide +kernel) (by decide +kernel) ?_
            refine pe_iload_n (j := 2) (by decide +kernel) rfl ?_
            refine pe_imul (by decide +kernel) ?_
            refine pe_top (v := 0) (by decide +kernel) ?_
            refine pe_aload_n (j := 0) (by decide +kernel) rfl ?_
            refine pe_aload_n (j := 0) (by decide +kernel) rfl ?_
            refine pe_get (j := 83) (ci := 12) (n := 3) (by decide +kernel) (by decide +kernel) (md_o hc) rfl ?_
            refine pe_top (v := (f1 3)) (upf_fr ef4 (by decide)) ?_
            refine pi_V (j := 86) (mj := 202) (by decide +kernel) (cll_V (args := [.int (f1 3)]) (n := 1) (by decide +kernel) rfl rfl (md_o hc) (by decide +kernel) (Nat.le_of_ble_eq_true rfl) (Nat.le_of_ble_eq_true rfl)) ?_
            show pmE pg X pg_tyl pg_cl (d + 1) 202 0 [.ref 147, .int (f1 3)] [] (md wc f4 A) _
            refine pe_iload_n (j := 1) (by decide +kernel) rfl ?_
            refine pe_aload_n (j := 0) (by decide +kernel) rfl ?_
            refine pe_get (j := 75) (ci := 12) (n := 2) (by decide +kernel) (by decide +kernel) (md_o hc) rfl ?_
            refine pe_top (v := (f 2)) ((upf_fr ef4 (by decide)).trans ((hGhIy2 2 (by decide)))) ?_
            refine pz_icmp_ge (off := 15) (t := 20) (by decide +kernel) (by decide) rfl rfl rfl (fun h215 => ?_) (fun h215 => ?_)
            · skip
              refine pe_iconstv (n := (-1)) (v := (-1)) (by decide +kernel) (by decide +kernel) ?_
              refine pe_iret (by decide +kernel) rfl rfl ⟨rfl, rfl, ?_⟩
              show pmE pg X pg_tyl pg_cl (d + 2) 201 117 [.ref 147, .int v11, .int 0] [.int (-1), .int 0] (md wc f4 A) _
              refine pe_iadd (by decide +kernel) ?_
              refine pe_top (v := (-1)) (by decide +kernel) ?_
              refine pe_bipushv (n := 96) (v := 96) (by decide +kernel) (by decide +kernel) ?_
              refine pe_isub (by decide +kernel) ?_
              refine pe_top (v := (-97)) (by decide +kernel) ?_
              refine pe_istore_n (j := 2) (ls' := [.ref 147, .int v11, .int (-97)]) (by decide +kernel) (Nat.le_of_ble_eq_true rfl) rfl ?_
              refine pe_aload_n (j := 0) (by decide +kernel) rfl ?_
              refine pe_dup (by decide +kernel) rfl ?_
              refine pe_get (j := 83) (ci := 12) (n := 3) (by decide +kernel) (by decide +kernel) (md_o hc) rfl ?_
              refine pe_top (v := (f1 3)) (upf_fr ef4 (by decide)) ?_
              refine pe_iconstv (n := 1) (v := 1) (by decide +kernel) (by decide +kernel) ?_
              refine pz_add (by decide +kernel) rfl kz_1 (by omega) (by omega) (fun z218 hz218 => ?_)
              refine mz_put3 (jj := 83) (by decide +kernel) (by decide +kernel) hc hIf4 (by omega) (by omega) (fun f219 ef219 hIf219 => ?_)
              refine pe_goto (off := (-55)) (t := 77) (by decide +kernel) (by decide) rfl ?_
              have hx224 : (f219 3).toInt = ((f1 3).toInt + 1) := (congrArg Int32.toInt (show f219 3 = z218 from upf_at ef219)).trans hz218
              have hx225 : (f219 3).toInt = ((f1 3).toInt + 1) := (congrArg Int32.toInt (show f219 3 = z218 from upf_at ef219)).trans hz218
              refine ML_201_77 hc (by omega) (fun f220 y222 hIy221 hGhIy221 hx223 => ?_) 601 f219 (-97) hIf219 (fun k _ => rfl) (by omega) (by have h := hIf219.1 3; simp only [MF] at h; omega)
              have hr_3_f220 := hIy221.1 3
              simp only [MF] at hr_3_f220
              refine pe_aload_n (j := 0) (by decide +kernel) rfl ?_
              refine pe_aload_n (j := 0) (by decide +kernel) rfl ?_
              refine pe_get (j := 83) (ci := 12) (n := 3) (by decide +kernel) (by decide +kernel) (md_o hc) rfl ?_
              refine pe_aload_n (j := 0) (by decide +kernel) rfl ?_
              refine pe_get (j := 90) (ci := 12) (n := 4) (by decide +kernel) (by decide +kernel) (md_o hc) rfl ?_
              refine pe_top (v := (f1 3)) (((hGhIy221 4 (by decide))).trans ((upf_fr ef219 (by decide)).trans (upf_at ef4))) ?_
              refine pz_sub (by decide +kernel) rfl rfl (by omega) (by omega) (fun z226 hz226 => ?_)
              refine pe_bipushv (n := 6) (v := 6) (by decide +kernel) (by decide +kernel) ?_
              refine pz_icmp_le (off := 8) (t := 155) (by decide +kernel) (by decide) rfl hz226 kz_6 (fun h227 => ?_) (fun h227 => ?_)
              · skip
                clear hz226
                refine pe_iload_n (j := 2) (by decide +kernel) rfl ?_
                refine pi_S (j := 100) (mj := 204) (by decide +kernel) (by decide +kernel) rfl ?_
                show pmE pg X pg_tyl pg_cl (d + 1) 204 0 [.int y222] [] (md wc f220 A) _
                refine pe_iload_n (j := 0) (by decide +kernel) rfl ?_
                refine pe_bipushv (n := 16) (v := 16) (by decide +kernel) (by decide +kernel) ?_
                refine pe_iconstv (n := 5) (v := 5) (by decide +kernel) (by decide +kernel) ?_
                refine pe_bipushv (n := 15) (v := 15) (by decide +kernel) (by decide +kernel) ?_
                refine pi_S (j := 78) (mj := 205) (by decide +kernel) (by decide +kernel) rfl ?_
                show pmE pg X pg_tyl pg_cl (d) 205 0 [.int 16, .int 5, .int 15] [] (md wc f220 A) _
                refine pe_iload_n (j := 0) (by decide +kernel) rfl ?_
                refine pe_bipushv (n := 32) (v := 32) (by decide +kernel) (by decide +kernel) ?_
                refine pe_imul (by decide +kernel) ?_
                refine pe_top (v := 512) (by decide +kernel) ?_
                refine pe_iload_n (j := 1) (by decide +kernel) rfl ?_
                refine pe_iadd (by decide +kernel) ?_
                refine pe_top (v := 517) (by decide +kernel) ?_
                refine pe_bipushv (n := 32) (v := 32) (by decide +kernel) (by decide +kernel) ?_
                refine pe_imul (by decide +kernel) ?_
                refine pe_top (v := 16544) (by decide +kernel) ?_
                refine pe_iload_n (j := 2) (by decide +kernel) rfl ?_
                refine pe_iadd (by decide +kernel) ?_
                refine pe_top (v := 16559) (by decide +kernel) ?_
                refine pe_iret (by decide +kernel) rfl rfl ⟨rfl, rfl, ?_⟩
                show pmE pg X pg_tyl pg_cl (d + 1) 204 9 [.int y222] [.int 16559, .int y222] (md wc f220 A) _
                refine pe_ldc (j := 82) (v := 32768) (by decide +kernel) (by decide +kernel) ?_
                refine pe_imul (by decide +kernel) ?_
                refine pe_top (v := 542605312) (by decide +kernel) ?_
                refine pe_bipushv (n := 16) (v := 16) (by decide +kernel) (by decide +kernel) ?_
                refine pe_bipushv (n := 12) (v := 12) (by decide +kernel) (by decide +kernel) ?_
                refine pe_iconstv (n := 5) (v := 5) (by decide +kernel) (by decide +kernel) ?_
                refine pi_S (j := 78) (mj := 205) (by decide +kernel) (by decide +kernel) rfl ?_
                show pmE pg X pg_tyl pg_cl (d) 205 0 [.int 16, .int 12, .int 5] [] (md wc f220 A) _
                refine pe_iload_n (j := 0) (by decide +kernel) rfl ?_
                refine pe_bipushv (n := 32) (v := 32) (by decide +kernel) (by decide +kernel) ?_
                refine pe_imul (by decide +kernel) ?_
                refine pe_top (v := 512) (by decide +kernel) ?_
                refine pe_iload_n (j := 1) (by decide +kernel) rfl ?_
                refine pe_iadd (by decide +kernel) ?_
                refine pe_top (v := 524) (by decide +kernel) ?_
                refine pe_bipushv (n := 32) (v := 32) (by decide +kernel) (by decide +kernel) ?_
                refine pe_imul (by decide +kernel) ?_
                refine pe_top (v := 16768) (by decide +kernel) ?_
                refine pe_iload_n (j := 2) (by decide +kernel) rfl ?_
                refine pe_iadd (by decide +kernel) ?_
                refine pe_top (v := 16773) (by decide +kernel) ?_
                refine pe_iret (by decide +kernel) rfl rfl ⟨rfl, rfl, ?_⟩
                show pmE pg X pg_tyl pg_cl (d + 1) 204 20 [.int y222] [.int 16773, .int 542605312, .int y222] (md wc f220 A) _
                refine pe_iadd (by decide +kernel) ?_
                refine pe_top (v := 542622085) (by decide +kernel) ?_
                have lw239 := zi_lo y222
                have uw239 := zi_hi y222
                refine pz_icmp_ne (off := 5) (t := 26) (by decide +kernel) (by decide) rfl rfl kz_542622085 (fun h238 => ?_) (fun h238 => ?_)
                · skip
                  refine pe_iload_n (j := 0) (by decide +kernel) rfl ?_
                  refine pe_bipushv (n := 23) (v := 23) (by decide +kernel) (by decide +kernel) ?_
                  refine pe_bipushv (n := 15) (v := 15) (by decide +kernel) (by decide +kernel) ?_
                  refine pe_bipushv (n := 18) (v := 18) (by decide +kernel) (by decide +kernel) ?_
                  refine pi_S (j := 78) (mj := 205) (by decide +kernel) (by decide +kernel) rfl ?_
                  show pmE pg X pg_tyl pg_cl (d) 205 0 [.int 23, .int 15, .int 18] [] (md wc f220 A) _
                  refine pe_iload_n (j := 0) (by decide +kernel) rfl ?_
                  refine pe_bipushv (n := 32) (v := 32) (by decide +kernel) (by decide +kernel) ?_
                  refine pe_imul (by decide +kernel) ?_
                  refine pe_top (v := 736) (by decide +kernel) ?_
                  refine pe_iload_n (j := 1) (by decide +kernel) rfl ?_
                  refine pe_iadd (by decide +kernel) ?_
                  refine pe_top (v := 751) (by decide +kernel) ?_
                  refine pe_bipushv (n := 32) (v := 32) (by decide +kernel) (by decide +kernel) ?_
                  refine pe_imul (by decide +kernel) ?_
                  refine pe_top (v := 24032) (by decide +kernel) ?_
                  refine pe_iload_n (j := 2) (by decide +kernel) rfl ?_
                  refine pe_iadd (by decide +kernel) ?_
                  refine pe_top (v := 24050) (by decide +kernel) ?_
                  refine pe_iret (by decide +kernel) rfl rfl ⟨rfl, rfl, ?_⟩
                  show pmE pg X pg_tyl pg_cl (d + 1) 204 36 [.int y222] [.int 24050, .int y222] (md wc f220 A) _
                  refine pe_bipushv (n := 32) (v := 32) (by decide +kernel) (by decide +kernel) ?_
                  refine pe_imul (by decide +kernel) ?_
                  refine pe_top (v := 769600) (by decide +kernel) ?_
                  refine pe_iconstv (n := 4) (v := 4) (by decide +kernel) (by decide +kernel) ?_
                  refine pe_iadd (by decide +kernel) ?_
                  refine pe_top (v := 769604) (by decide +kernel) ?_
                  refine pz_icmp_ne (off := 5) (t := 46) (by decide +kernel) (by decide) rfl rfl kz_769604 (fun h246 => ?_) (fun h246 => ?_)
                  · skip
                    refine pe_iload_n (j := 0) (by decide +kernel) rfl ?_
                    refine pe_iconstv (n := 1) (v := 1) (by decide +kernel) (by decide +kernel) ?_
                    refine pe_bipushv (n := 12) (v := 12) (by decide +kernel) (by decide +kernel) ?_
                    refine pe_bipushv (n := 12) (v := 12) (by decide +kernel) (by decide +kernel) ?_
                    refine pi_S (j := 78) (mj := 205) (by decide +kernel) (by decide +kernel) rfl ?_
                    show pmE pg X pg_tyl pg_cl (d) 205 0 [.int 1, .int 12, .int 12] [] (md wc f220 A) _
                    refine pe_iload_n (j := 0) (by decide +kernel) rfl ?_
                    refine pe_bipushv (n := 32) (v := 32) (by decide +kernel) (by decide +kernel) ?_
                    refine pe_imul (by decide +kernel) ?_
                    refine pe_top (v := 32) (by decide +kernel) ?_
                    refine pe_iload_n (j := 1) (by decide +kernel) rfl ?_
                    refine pe_iadd (by decide +kernel) ?_
                    refine pe_top (v := 44) (by decide +kernel) ?_
                    refine pe_bipushv (n := 32) (v := 32) (by decide +kernel) (by decide +kernel) ?_
                    refine pe_imul (by decide +kernel) ?_
                    refine pe_top (v := 1408) (by decide +kernel) ?_
                    refine pe_iload_n (j := 2) (by decide +kernel) rfl ?_
                    refine pe_iadd (by decide +kernel) ?_
                    refine pe_top (v := 1420) (by decide +kernel) ?_
                    refine pe_iret (by decide +kernel) rfl rfl ⟨rfl, rfl, ?_⟩
                    show pmE pg X pg_tyl pg_cl (d + 1) 204 55 [.int y222] [.int 1420, .int y222] (md wc f220 A) _
                    refine pz_icmp_ne (off := 5) (t := 60) (by decide +kernel) (by decide) rfl rfl kz_1420 (fun h251 => ?_) (fun h251 => ?_)
                    · skip
                      refine pe_iload_n (j := 0) (by decide +kernel) rfl ?_
                      refine pe_bipushv (n := 6) (v := 6) (by decide +kernel) (by decide +kernel) ?_
                      refine pe_iconstv (n := 5) (v := 5) (by decide +kernel) (by decide +kernel) ?_
                      refine pe_iconstv (n := 5) (v := 5) (by decide +kernel) (by decide +kernel) ?_
                      refine pi_S (j := 78) (mj := 205) (by decide +kernel) (by decide +kernel) rfl ?_
                      show pmE pg X pg_tyl pg_cl (d) 205 0 [.int 6, .int 5, .int 5] [] (md wc f220 A) _
                      refine pe_iload_n (j := 0) (by decide +kernel) rfl ?_
                      refine pe_bipushv (n := 32) (v := 32) (by decide +kernel) (by decide +kernel) ?_
                      refine pe_imul (by decide +kernel) ?_
                      refine pe_top (v := 192) (by decide +kernel) ?_
                      refine pe_iload_n (j := 1) (by decide +kernel) rfl ?_
                      refine pe_iadd (by decide +kernel) ?_
                      refine pe_top (v := 197) (by decide +kernel) ?_
                      refine pe_bipushv (n := 32) (v := 32) (by decide +kernel) (by decide +kernel) ?_
                      refine pe_imul (by decide +kernel) ?_
                      refine pe_top (v := 6304) (by decide +kernel) ?_
                      refine pe_iload_n (j := 2) (by decide +kernel) rfl ?_
                      refine pe_iadd (by decide +kernel) ?_
                      refine pe_top (v := 6309) (by decide +kernel) ?_
                      refine pe_iret (by decide +kernel) rfl rfl ⟨rfl, rfl, ?_⟩
                      show pmE pg X pg_tyl pg_cl (d + 1) 204 68 [.int y222] [.int 6309, .int y222] (md wc f220 A) _
                      refine pz_icmp_ne (off := 5) (t := 73) (by decide +kernel) (by decide) rfl rfl kz_6309 (fun h256 => ?_) (fun h256 => ?_)
                      · skip
                        refine pe_iload_n (j := 0) (by decide +kernel) rfl ?_
                        refine pe_bipushv (n := 18) (v := 18) (by decide +kernel) (by decide +kernel) ?_
                        refine pe_bipushv (n := 9) (v := 9) (by decide +kernel) (by decide +kernel) ?_
                        refine pe_bipushv (n := 19) (v := 19) (by decide +kernel) (by decide +kernel) ?_
                        refine pi_S (j := 78) (mj := 205) (by decide +kernel) (by decide +kernel) rfl ?_
                        show pmE pg X pg_tyl pg_cl (d) 205 0 [.int 18, .int 9, .int 19] [] (md wc f220 A) _
                        refine pe_iload_n (j := 0) (by decide +kernel) rfl ?_
                        refine pe_bipushv (n := 32) (v := 32) (by decide +kernel) (by decide +kernel) ?_
                        refine pe_imul (by decide +kernel) ?_
                        refine pe_top (v := 576) (by decide +kernel) ?_
                        refine pe_iload_n (j := 1) (by decide +kernel) rfl ?_
                        refine pe_iadd (by decide +kernel) ?_
                        refine pe_top (v := 585) (by decide +kernel) ?_
                        refine pe_bipushv (n := 32) (v := 32) (by decide +kernel) (by decide +kernel) ?_
                        refine pe_imul (by decide +kernel) ?_
                        refine pe_top (v := 18720) (by decide +kernel) ?_
                        refine pe_iload_n (j := 2) (by decide +kernel) rfl ?_
                        refine pe_iadd (by decide +kernel) ?_
                        refine pe_top (v := 18739) (by decide +kernel) ?_
                        refine pe_iret (by decide +kernel) rfl rfl ⟨rfl, rfl, ?_⟩
                        show pmE pg X pg_tyl pg_cl (d + 1) 204 83 [.int y222] [.int 18739, .int y222] (md wc f220 A) _
                        refine pe_bipushv (n := 32) (v := 32) (by decide +kernel) (by decide +kernel) ?_
                        refine pe_imul (by decide +kernel) ?_
                        refine pe_top (v := 599648) (by decide +kernel) ?_
                        refine pe_bipushv (n := 11) (v := 11) (by decide +kernel) (by decide +kernel) ?_
                        refine pe_iadd (by decide +kernel) ?_
                        refine pe_top (v := 599659) (by decide +kernel) ?_
                        refine pz_icmp_ne (off := 5) (t := 94) (by decide +kernel) (by decide) rfl rfl kz_599659 (fun h263 => ?_) (fun h263 => ?_)
                        · skip
                          refine pe_iload_n (j := 0) (by decide +kernel) rfl ?_
                          refine pe_bipushv (n := 19) (v := 19) (by decide +kernel) (by decide +kernel) ?_
                          refine pe_bipushv (n := 12) (v := 12) (by decide +kernel) (by decide +kernel) ?_
                          refine pe_iconstv (n := 1) (v := 1) (by decide +kernel) (by decide +kernel) ?_
                          refine pi_S (j := 78) (mj := 205) (by decide +kernel) (by decide +kernel) rfl ?_
                          show pmE pg X pg_tyl pg_cl (d) 205 0 [.int 19, .int 12, .int 1] [] (md wc f220 A) _
                          refine pe_iload_n (j := 0) (by decide +kernel) rfl ?_
                          refine pe_bipushv (n := 32) (v := 32) (by decide +kernel) (by decide +kernel) ?_
                          refine pe_imul (by decide +kernel) ?_
                          refine pe_top (v := 608) (by decide +kernel) ?_
                          refine pe_iload_n (j := 1) (by decide +kernel) rfl ?_
                          refine pe_iadd (by decide +kernel) ?_
                          refine pe_top (v := 620) (by decide +kernel) ?_
                          refine pe_bipushv (n := 32) (v := 32) (by decide +kernel) (by decide +kernel) ?_
                          refine pe_imul (by decide +kernel) ?_
                          refine pe_top (v := 19840) (by decide +kernel) ?_
                          refine pe_iload_n (j := 2) (by decide +kernel) rfl ?_
                          refine pe_iadd (by decide +kernel) ?_
                          refine pe_top (v := 19841) (by decide +kernel) ?_
                          refine pe_iret (by decide +kernel) rfl rfl ⟨rfl, rfl, ?_⟩
                          show pmE pg X pg_tyl pg_cl (d + 1) 204 103 [.int y222] [.int 19841, .int y222] (md wc f220 A) _
                          refine pe_sipushv (n := 1024) (v := 1024) (by decide +kernel) (by decide +kernel) ?_
                          refine pe_imul (by decide +kernel) ?_
                          refine pe_top (v := 20317184) (by decide +kernel) ?_
                          refine pe_bipushv (n := 96) (v := 96) (by decide +kernel) (by decide +kernel) ?_
                          refine pe_iadd (by decide +kernel) ?_
                          refine pe_top (v := 20317280) (by decide +kernel) ?_
                          refine pe_bipushv (n := 11) (v := 11) (by decide +kernel) (by decide +kernel) ?_
                          refine pe_iadd (by decide +kernel) ?_
                          refine pe_top (v := 20317291) (by decide +kernel) ?_
                          refine pz_icmp_ne (off := 6) (t := 119) (by decide +kernel) (by decide) rfl rfl kz_20317291 (fun h271 => ?_) (fun h271 => ?_)
                          · skip
                            refine pe_iload_n (j := 0) (by decide +kernel) rfl ?_
                            refine pe_bipushv (n := 23) (v := 23) (by decide +kernel) (by decide +kernel) ?_
                            refine pe_iconstv (n := 1) (v := 1) (by decide +kernel) (by decide +kernel) ?_
                            refine pe_bipushv (n := 14) (v := 14) (by decide +kernel) (by decide +kernel) ?_
                            refine pi_S (j := 78) (mj := 205) (by decide +kernel) (by decide +kernel) rfl ?_
                            show pmE pg X pg_tyl pg_cl (d) 205 0 [.int 23, .int 1, .int 14] [] (md wc f220 A) _
                            refine pe_iload_n (j := 0) (by decide +kernel) rfl ?_
                            refine pe_bipushv (n := 32) (v := 32) (by decide +kernel) (by decide +kernel) ?_
                            refine pe_imul (by decide +kernel) ?_
                            refine pe_top (v := 736) (by decide +kernel) ?_
                            refine pe_iload_n (j := 1) (by decide +kernel) rfl ?_
                            refine pe_iadd (by decide +kernel) ?_
                            refine pe_top (v := 737) (by decide +kernel) ?_
                            refine pe_bipushv (n := 32) (v := 32) (by decide +kernel) (by decide +kernel) ?_
                            refine pe_imul (by decide +kernel) ?_
                            refine pe_top (v := 23584) (by decide +kernel) ?_
                            refine pe_iload_n (j := 2) (by decide +kernel) rfl ?_
                            refine pe_iadd (by decide +kernel) ?_
                            refine pe_top (v := 23598) (by decide +kernel) ?_
                            refine pe_iret (by decide +kernel) rfl rfl ⟨rfl, rfl, ?_⟩
                            show pmE pg X pg_tyl pg_cl (d + 1) 204 128 [.int y222] [.int 23598, .int y222] (md wc f220 A) _
                            refine pe_bipushv (n := 32) (v := 32) (by decide +kernel) (by decide +kernel) ?_
                            refine pe_imul (by decide +kernel) ?_
                            refine pe_top (v := 755136) (by decide +kernel) ?_
                            refine pe_bipushv (n := 20) (v := 20) (by decide +kernel) (by decide +kernel) ?_
                            refine pe_iadd (by decide +kernel) ?_
                            refine pe_top (v := 755156) (by decide +kernel) ?_
                            refine pz_icmp_ne (off := 6) (t := 140) (by decide +kernel) (by decide) rfl rfl kz_755156 (fun h278 => ?_) (fun h278 => ?_)
                            · skip
                              refine pe_iload_n (j := 0) (by decide +kernel) rfl ?_
                              refine pe_bipushv (n := 15) (v := 15) (by decide +kernel) (by decide +kernel) ?_
                              refine pe_bipushv (n := 23) (v := 23) (by decide +kernel) (by decide +kernel) ?_
                              refine pe_iconstv (n := 5) (v := 5) (by decide +kernel) (by decide +kernel) ?_
                              refine pi_S (j := 78) (mj := 205) (by decide +kernel) (by decide +kernel) rfl ?_
                              show pmE pg X pg_tyl pg_cl (d) 205 0 [.int 15, .int 23, .int 5] [] (md wc f220 A) _
                              refine pe_iload_n (j := 0) (by decide +kernel) rfl ?_
                              refine pe_bipushv (n := 32) (v := 32) (by decide +kernel) (by decide +kernel) ?_
                              refine pe_imul (by decide +kernel) ?_
                              refine pe_top (v := 480) (by decide +kernel) ?_
                              refine pe_iload_n (j := 1) (by decide +kernel) rfl ?_
                              refine pe_iadd (by decide +kernel) ?_
                              refine pe_top (v := 503) (by decide +kernel) ?_
                              refine pe_bipushv (n := 32) (v := 32) (by decide +kernel) (by decide +kernel) ?_
                              refine pe_imul (by decide +kernel) ?_
                              refine pe_top (v := 16096) (by decide +kernel) ?_
                              refine pe_iload_n (j := 2) (by decide +kernel) rfl ?_
                              refine pe_iadd (by decide +kernel) ?_
                              refine pe_top (v := 16101) (by decide +kernel) ?_
                              refine pe_iret (by decide +kernel) rfl rfl ⟨rfl, rfl, ?_⟩
                              show pmE pg X pg_tyl pg_cl (d + 1) 204 149 [.int y222] [.int 16101, .int y222] (md wc f220 A) _
                              refine pz_icmp_ne (off := 6) (t := 155) (by decide +kernel) (by decide) rfl rfl kz_16101 (fun h283 => ?_) (fun h283 => ?_)
                              · skip
                                refine pe_iload_n (j := 0) (by decide +kernel) rfl ?_
                                refine pe_bipushv (n := 16) (v := 16) (by decide +kernel) (by decide +kernel) ?_
                                refine pe_iconstv (n := 1) (v := 1) (by decide +kernel) (by decide +kernel) ?_
                                refine pe_bipushv (n := 25) (v := 25) (by decide +kernel) (by decide +kernel) ?_
                                refine pi_S (j := 78) (mj := 205) (by decide +kernel) (by decide +kernel) rfl ?_
                                show pmE pg X pg_tyl pg_cl (d) 205 0 [.int 16, .int 1, .int 25] [] (md wc f220 A) _
                                refine pe_iload_n (j := 0) (by decide +kernel) rfl ?_
                                refine pe_bipushv (n := 32) (v := 32) (by decide +kernel) (by decide +kernel) ?_
                                refine pe_imul (by decide +kernel) ?_
                                refine pe_top (v := 512) (by decide +kernel) ?_
                                refine pe_iload_n (j := 1) (by decide +kernel) rfl ?_
                                refine pe_iadd (by decide +kernel) ?_
                                refine pe_top (v := 513) (by decide +kernel) ?_
                                refine pe_bipushv (n := 32) (v := 32) (by decide +kernel) (by decide +kernel) ?_
                                refine pe_imul (by decide +kernel) ?_
                                refine pe_top (v := 16416) (by decide +kernel) ?_
                                refine pe_iload_n (j := 2) (by decide +kernel) rfl ?_
                                refine pe_iadd (by decide +kernel) ?_
                                refine pe_top (v := 16441) (by decide +kernel) ?_
                                refine pe_iret (by decide +kernel) rfl rfl ⟨rfl, rfl, ?_⟩
                                show pmE pg X pg_tyl pg_cl (d + 1) 204 164 [.int y222] [.int 16441, .int y222] (md wc f220 A) _
                                refine pz_icmp_ne (off := 6) (t := 170) (by decide +kernel) (by decide) rfl rfl kz_16441 (fun h288 => ?_) (fun h288 => ?_)
                                · skip
                                  refine pe_iload_n (j := 0) (by decide +kernel) rfl ?_
                                  refine pe_bipushv (n := 18) (v := 18) (by decide +kernel) (by decide +kernel) ?_
                                  refine pe_bipushv (n := 9) (v := 9) (by decide +kernel) (by decide +kernel) ?_
                                  refine pe_bipushv (n := 14) (v := 14) (by decide +kernel) (by decide +kernel) ?_
                                  refine pi_S (j := 78) (mj := 205) (by decide +kernel) (by decide +kernel) rfl ?_
                                  show pmE pg X pg_tyl pg_cl (d) 205 0 [.int 18, .int 9, .int 14] [] (md wc f220 A) _
                                  refine pe_iload_n (j := 0) (by decide +kernel) rfl ?_
                                  refine pe_bipushv (n := 32) (v := 32) (by decide +kernel) (by decide +kernel) ?_
                                  refine pe_imul (by decide +kernel) ?_
                                  refine pe_top (v := 576) (by decide +kernel) ?_
                                  refine pe_iload_n (j := 1) (by decide +kernel) rfl ?_
                                  refine pe_iadd (by decide +kernel) ?_
                                  refine pe_top (v := 585) (by decide +kernel) ?_
                                  refine pe_bipushv (n := 32) (v := 32) (by decide +kernel) (by decide +kernel) ?_
                                  refine pe_imul (by decide +kernel) ?_
                                  refine pe_top (v := 18720) (by decide +kernel) ?_
                                  refine pe_iload_n (j := 2) (by decide +kernel) rfl ?_
                                  refine pe_iadd (by decide +kernel) ?_
                                  refine pe_top (v := 18734) (by decide +kernel) ?_
                                  refine pe_iret (by decide +kernel) rfl rfl ⟨rfl, rfl, ?_⟩
                                  show pmE pg X pg_tyl pg_cl (d + 1) 204 180 [.int y222] [.int 18734, .int y222] (md wc f220 A) _
                                  refine pe_bipushv (n := 32) (v := 32) (by decide +kernel) (by decide +kernel) ?_
                                  refine pe_imul (by decide +kernel) ?_
                                  refine pe_top (v := 599488) (by decide +kernel) ?_
                                  refine pe_bipushv (n := 7) (v := 7) (by decide +kernel) (by decide +kernel) ?_
                                  refine pe_iadd (by decide +kernel) ?_
                                  refine pe_top (v := 599495) (by decide +kernel) ?_
                                  refine pz_icmp_ne (off := 6) (t := 192) (by decide +kernel) (by decide) rfl rfl kz_599495 (fun h295 => ?_) (fun h295 => ?_)
                                  · skip
                                    refine pe_iload_n (j := 0) (by decide +kernel) rfl ?_
                                    refine pe_bipushv (n := 19) (v := 19) (by decide +kernel) (by decide +kernel) ?_
                                    refine pe_bipushv (n := 20) (v := 20) (by decide +kernel) (by decide +kernel) ?_
                                    refine pe_bipushv (n := 18) (v := 18) (by decide +kernel) (by decide +kernel) ?_
                                    refine pi_S (j := 78) (mj := 205) (by decide +kernel) (by decide +kernel) rfl ?_
                                    show pmE pg X pg_tyl pg_cl (d) 205 0 [.int 19, .int 20, .int 18] [] (md wc f220 A) _
                                    refine pe_iload_n (j := 0) (by decide +kernel) rfl ?_
                                    refine pe_bipushv (n := 32) (v := 32) (by decide +kernel) (by decide +kernel) ?_
                                    refine pe_imul (by decide +kernel) ?_
                                    refine pe_top (v := 608) (by decide +kernel) ?_
                                    refine pe_iload_n (j := 1) (by decide +kernel) rfl ?_
                                    refine pe_iadd (by decide +kernel) ?_
                                    refine pe_top (v := 628) (by decide +kernel) ?_
                                    refine pe_bipushv (n := 32) (v := 32) (by decide +kernel) (by decide +kernel) ?_
                                    refine pe_imul (by decide +kernel) ?_
                                    refine pe_top (v := 20096) (by decide +kernel) ?_
                                    refine pe_iload_n (j := 2) (by decide +kernel) rfl ?_
                                    refine pe_iadd (by decide +kernel) ?_
                                    refine pe_top (v := 20114) (by decide +kernel) ?_
                                    refine pe_iret (by decide +kernel) rfl rfl ⟨rfl, rfl, ?_⟩
                                    show pmE pg X pg_tyl pg_cl (d + 1) 204 202 [.int y222] [.int 20114, .int y222] (md wc f220 A) _
                                    refine pe_ldc (j := 82) (v := 32768) (by decide +kernel) (by decide +kernel) ?_
                                    refine pe_imul (by decide +kernel) ?_
                                    refine pe_top (v := 659095552) (by decide +kernel) ?_
                                    refine pe_bipushv (n := 9) (v := 9) (by decide +kernel) (by decide +kernel) ?_
                                    refine pe_bipushv (n := 11) (v := 11) (by decide +kernel) (by decide +kernel) ?_
                                    refine pe_iconstv (n := 5) (v := 5) (by decide +kernel) (by decide +kernel) ?_
                                    refine pi_S (j := 78) (mj := 205) (by decide +kernel) (by decide +kernel) rfl ?_
                                    show pmE pg X pg_tyl pg_cl (d) 205 0 [.int 9, .int 11, .int 5] [] (md wc f220 A) _
                                    refine pe_iload_n (j := 0) (by decide +kernel) rfl ?_
                                    refine pe_bipushv (n := 32) (v := 32) (by decide +kernel) (by decide +kernel) ?_
                                    refine pe_imul (by decide +kernel) ?_
                                    refine pe_top (v := 288) (by decide +kernel) ?_
                                    refine pe_iload_n (j := 1) (by decide +kernel) rfl ?_
                                    refine pe_iadd (by decide +kernel) ?_
                                    refine pe_top (v := 299) (by decide +kernel) ?_
                                    refine pe_bipushv (n := 32) (v := 32) (by decide +kernel) (by decide +kernel) ?_
                                    refine pe_imul (by decide +kernel) ?_
                                    refine pe_top (v := 9568) (by decide +kernel) ?_
                                    refine pe_iload_n (j := 2) (by decide +kernel) rfl ?_
                                    refine pe_iadd (by decide +kernel) ?_
                                    refine pe_top (v := 9573) (by decide +kernel) ?_
                                    refine pe_iret (by decide +kernel) rfl rfl ⟨rfl, rfl, ?_⟩
                                    show pmE pg X pg_tyl pg_cl (d + 1) 204 213 [.int y222] [.int 9573, .int 659095552, .int y222] (md wc f220 A) _
                                    refine pe_iadd (by decide +kernel) ?_
                                    refine pe_top (v := 659105125) (by decide +kernel) ?_
                                    refine pz_icmp_ne (off := 6) (t := 220) (by decide +kernel) (by decide) rfl rfl kz_659105125 (fun h306 => ?_) (fun h306 => ?_)
                                    · skip
                                      refine pe_iload_n (j := 0) (by decide +kernel) rfl ?_
                                      refine pe_bipushv (n := 6) (v := 6) (by decide +kernel) (by decide +kernel) ?_
                                      refine pe_iconstv (n := 1) (v := 1) (by decide +kernel) (by decide +kernel) ?_
                                      refine pe_bipushv (n := 9) (v := 9) (by decide +kernel) (by decide +kernel) ?_
                                      refine pi_S (j := 78) (mj := 205) (by decide +kernel) (by decide +kernel) rfl ?_
                                      show pmE pg X pg_tyl pg_cl (d) 205 0 [.int 6, .int 1, .int 9] [] (md wc f220 A) _
                                      refine pe_iload_n (j := 0) (by decide +kernel) rfl ?_
                                      refine pe_bipushv (n := 32) (v := 32) (by decide +kernel) (by decide +kernel) ?_
                                      refine pe_imul (by decide +kernel) ?_
                                      refine pe_top (v := 192) (by decide +kernel) ?_
                                      refine pe_iload_n (j := 1) (by decide +kernel) rfl ?_
                                      refine pe_iadd (by decide +kernel) ?_
                                      refine pe_top (v := 193) (by decide +kernel) ?_
                                      refine pe_bipushv (n := 32) (v := 32) (by decide +kernel) (by decide +kernel) ?_
                                      refine pe_imul (by decide +kernel) ?_
                                      refine pe_top (v := 6176) (by decide +kernel) ?_
                                      refine pe_iload_n (j := 2) (by decide +kernel) rfl ?_
                                      refine pe_iadd (by decide +kernel) ?_
                                      refine pe_top (v := 6185) (by decide +kernel) ?_
                                      refine pe_iret (by decide +kernel) rfl rfl ⟨rfl, rfl, ?_⟩
                                      show pmE pg X pg_tyl pg_cl (d + 1) 204 229 [.int y222] [.int 6185, .int y222] (md wc f220 A) _
                                      refine pe_bipushv (n := 32) (v := 32) (by decide +kernel) (by decide +kernel) ?_
                                      refine pe_imul (by decide +kernel) ?_
                                      refine pe_top (v := 197920) (by decide +kernel) ?_
                                      refine pe_bipushv (n := 12) (v := 12) (by decide +kernel) (by decide +kernel) ?_
                                      refine pe_iadd (by decide +kernel) ?_
                                      refine pe_top (v := 197932) (by decide +kernel) ?_
                                      refine pz_icmp_ne (off := 6) (t := 241) (by decide +kernel) (by decide) rfl rfl kz_197932 (fun h313 => ?_) (fun h313 => ?_)
                                      · skip
                                        refine pe_iload_n (j := 0) (by decide +kernel) rfl ?_
                                        refine pe_bipushv (n := 13) (v := 13) (by decide +kernel) (by decide +kernel) ?_
                                        refine pe_bipushv (n := 15) (v := 15) (by decide +kernel) (by decide +kernel) ?_
                                        refine pe_bipushv (n := 14) (v := 14) (by decide +kernel) (by decide +kernel) ?_
                                        refine pi_S (j := 78) (mj := 205) (by decide +kernel) (by decide +kernel) rfl ?_
                                        show pmE pg X pg_tyl pg_cl (d) 205 0 [.int 13, .int 15, .int 14] [] (md wc f220 A) _
                                        refine pe_iload_n (j := 0) (by decide +kernel) rfl ?_
                                        refine pe_bipushv (n := 32) (v := 32) (by decide +kernel) (by decide +kernel) ?_
                                        refine pe_imul (by decide +kernel) ?_
                                        refine pe_top (v := 416) (by decide +kernel) ?_
                                        refine pe_iload_n (j := 1) (by decide +kernel) rfl ?_
                                        refine pe_iadd (by decide +kernel) ?_
                                        refine pe_top (v := 431) (by decide +kernel) ?_
                                        refine pe_bipushv (n := 32) (v := 32) (by decide +kernel) (by decide +kernel) ?_
                                        refine pe_imul (by decide +kernel) ?_
                                        refine pe_top (v := 13792) (by decide +kernel) ?_
                                        refine pe_iload_n (j := 2) (by decide +kernel) rfl ?_
                                        refine pe_iadd (by decide +kernel) ?_
                                        refine pe_top (v := 13806) (by decide +kernel) ?_
                                        refine pe_iret (by decide +kernel) rfl rfl ⟨rfl, rfl, ?_⟩
                                        show pmE pg X pg_tyl pg_cl (d + 1) 204 251 [.int y222] [.int 13806, .int y222] (md wc f220 A) _
                                        refine pe_sipushv (n := 1024) (v := 1024) (by decide +kernel) (by decide +kernel) ?_
                                        refine pe_imul (by decide +kernel) ?_
                                        refine pe_top (v := 14137344) (by decide +kernel) ?_
                                        refine pe_sipushv (n := 640) (v := 640) (by decide +kernel) (by decide +kernel) ?_
                                        refine pe_iadd (by decide +kernel) ?_
                                        refine pe_top (v := 14137984) (by decide +kernel) ?_
                                        refine pe_bipushv (n := 8) (v := 8) (by decide +kernel) (by decide +kernel) ?_
                                        refine pe_iadd (by decide +kernel) ?_
                                        refine pe_top (v := 14137992) (by decide +kernel) ?_
                                        refine pz_icmp_ne (off := 8) (t := 270) (by decide +kernel) (by decide) rfl rfl kz_14137992 (fun h321 => ?_) (fun h321 => ?_)
                                        · skip
                                          refine pe_bipushv (n := 99) (v := 99) (by decide +kernel) (by decide +kernel) ?_
                                          refine pe_iret (by decide +kernel) rfl rfl ⟨rfl, rfl, ?_⟩
                                          show pmE pg X pg_tyl pg_cl (d + 2) 201 159 [.ref 147, .int v11, .int y222] [.int 99, .ref 147] (md wc f220 A) _
                                          refine mz_put7 (jj := 103) (by decide +kernel) (by decide +kernel) hc hIy221 (fun f322 ef322 hIf322 => ?_)
                                          refine pe_aload_n (j := 0) (by decide +kernel) rfl ?_
                                          refine pe_aload_n (j := 0) (by decide +kernel) rfl ?_
                                          refine pe_get (j := 103) (ci := 12) (n := 7) (by decide +kernel) (by decide +kernel) (md_o hc) rfl ?_
                                          refine pe_top (v := 99) (upf_at ef322) ?_
                                          refine pe_bipushv (n := 99) (v := 99) (by decide +kernel) (by decide +kernel) ?_
                                          refine pz_icmp_ne (off := 7) (t := 176) (by decide +kernel) (by decide) rfl kz_99 kz_99 (fun h323 => by omega) (fun h323 => ?_)
                                          refine pe_iconstv (n := 4) (v := 4) (by decide +kernel) (by decide +kernel) ?_
                                          refine pe_goto (off := 4) (t := 177) (by decide +kernel) (by decide) rfl ?_
                                          refine mz_put5 (jj := 93) (by decide +kernel) (by decide +kernel) hc hIf322 (by decide +kernel) (by decide +kernel) (fun f324 ef324 hIf324 => ?_)
                                          refine pe_goto (off := 128) (t := 308) (by decide +kernel) (by decide) rfl ?_
                                          have hx325 : (f324 3).toInt = (f220 3).toInt := (congrArg Int32.toInt (show f324 3 = (f220 3) from (upf_fr ef324 (by decide)).trans (upf_fr ef322 (by decide)))).trans rfl
                                          have hx326 : (f324 5).toInt = 4 := (congrArg Int32.toInt (show f324 5 = 4 from upf_at ef324)).trans kz_4
                                          exact pe_vret (by decide +kernel) rfl ⟨f324, rfl, hIf324, (fun k n3 n4 n5 n6 n7 => (upf_fr ef324 n5).trans ((upf_fr ef322 n7).trans (((hGhIy221 k n3)).trans ((upf_fr ef219 n3).trans ((upf_fr ef4 n4).trans ((hGhIy2 k n3))))))), (by omega), trivial⟩
                                        · skip
                                          refine pe_bipushv (n := 16) (v := 16) (by decide +kernel) (by decide +kernel) ?_
                                          refine pe_goto (off := 5) (t := 272) (by decide +kernel) (by decide) rfl ?_
                                          refine pe_iret (by decide +kernel) rfl rfl ⟨rfl, rfl, ?_⟩
                                          show pmE pg X pg_tyl pg_cl (d + 2) 201 159 [.ref 147, .int v11, .int y222] [.int 16, .ref 147] (md wc f220 A) _
                                          refine mz_put7 (jj := 103) (by decide +kernel) (by decide +kernel) hc hIy221 (fun f327 ef327 hIf327 => ?_)
                                          refine pe_aload_n (j := 0) (by decide +kernel) rfl ?_
                                          refine pe_aload_n (j := 0) (by decide +kernel) rfl ?_
                                          refine pe_get (j := 103) (ci := 12) (n := 7) (by decide +kernel) (by decide +kernel) (md_o hc) rfl ?_
                                          refine pe_top (v := 16) (upf_at ef327) ?_
                                          refine pe_bipushv (n := 99) (v := 99) (by decide +kernel) (by decide +kernel) ?_
                                          refine pz_icmp_ne (off := 7) (t := 176) (by decide +kernel) (by decide) rfl kz_16 kz_99 (fun h328 => ?_) (fun h328 => by omega)
                                          refine pe_iconstv (n := 3) (v := 3) (by decide +kernel) (by decide +kernel) ?_
                                          refine mz_put5 (jj := 93) (by decide +kernel) (by decide +kernel) hc hIf327 (by decide +kernel) (by decide +kernel) (fun f329 ef329 hIf329 => ?_)
                                          refine pe_goto (off := 128) (t := 308) (by decide +kernel) (by decide) rfl ?_
                                          have hx330 : (f329 3).toInt = (f220 3).toInt := (congrArg Int32.toInt (show f329 3 = (f220 3) from (upf_fr ef329 (by decide)).trans (upf_fr ef327 (by decide)))).trans rfl
                                          have hx331 : (f329 5).toInt = 3 := (congrArg Int32.toInt (show f329 5 = 3 from upf_at ef329)).trans kz_3
                                          exact pe_vret (by decide +kernel) rfl ⟨f329, rfl, hIf329, (fun k n3 n4 n5 n6 n7 => (upf_fr ef329 n5).trans ((upf_fr ef327 n7).trans (((hGhIy221 k n3)).trans ((upf_fr ef219 n3).trans ((upf_fr ef4 n4).trans ((hGhIy2 k n3))))))), (by omega), trivial⟩
                                      · skip
                                        refine pe_bipushv (n := 15) (v := 15) (by decide +kernel) (by decide +kernel) ?_
                                        refine pe_iret (by decide +kernel) rfl rfl ⟨rfl, rfl, ?_⟩
                                        show pmE pg X pg_tyl pg_cl (d + 2) 201 159 [.ref 147, .int v11, .int y222] [.int 15, .ref 147] (md wc f220 A) _
                                        refine mz_put7 (jj := 103) (by decide +kernel) (by decide +kernel) hc hIy221 (fun f332 ef332 hIf332 => ?_)
                                        refine pe_aload_n (j := 0) (by decide +kernel) rfl ?_
                                        refine pe_aload_n (j := 0) (by decide +kernel) rfl ?_
                                        refine pe_get (j := 103) (ci := 12) (n := 7) (by decide +kernel) (by decide +kernel) (md_o hc) rfl ?_
                                        refine pe_top (v := 15) (upf_at ef332) ?_
                                        refine pe_bipushv (n := 99) (v := 99) (by decide +kernel) (by decide +kernel) ?_
                                        refine pz_icmp_ne (off := 7) (t := 176) (by decide +kernel) (by decide) rfl kz_15 kz_99 (fun h333 => ?_) (fun h333 => by omega)
                                        refine pe_iconstv (n := 3) (v := 3) (by decide +kernel) (by decide +kernel) ?_
                                        refine mz_put5 (jj := 93) (by decide +kernel) (by decide +kernel) hc hIf332 (by decide +kernel) (by decide +kernel) (fun f334 ef334 hIf334 => ?_)
                                        refine pe_goto (off := 128) (t := 308) (by decide +kernel) (by decide) rfl ?_
                                        have hx335 : (f334 3).toInt = (f220 3).toInt := (congrArg Int32.toInt (show f334 3 = (f220 3) from (upf_fr ef334 (by decide)).trans (upf_fr ef332 (by decide)))).trans rfl
                                        have hx336 : (f334 5).toInt = 3 := (congrArg Int32.toInt (show f334 5 = 3 from upf_at ef334)).trans kz_3
                                        exact pe_vret (by decide +kernel) rfl ⟨f334, rfl, hIf334, (fun k n3 n4 n5 n6 n7 => (upf_fr ef334 n5).trans ((upf_fr ef332 n7).trans (((hGhIy221 k n3)).trans ((upf_fr ef219 n3).trans ((upf_fr ef4 n4).trans ((hGhIy2 k n3))))))), (by omega), trivial⟩
                                    · skip
                                      refine pe_bipushv (n := 14) (v := 14) (by decide +kernel) (by decide +kernel) ?_
                                      refine pe_iret (by decide +kernel) rfl rfl ⟨rfl, rfl, ?_⟩
                                      show pmE pg X pg_tyl pg_cl (d + 2) 201 159 [.ref 147, .int v11, .int y222] [.int 14, .ref 147] (md wc f220 A) _
                                      refine mz_put7 (jj := 103) (by decide +kernel) (by decide +kernel) hc hIy221 (fun f337 ef337 hIf337 => ?_)
                                      refine pe_aload_n (j := 0) (by decide +kernel) rfl ?_
                                      refine pe_aload_n (j := 0) (by decide +kernel) rfl ?_
                                      refine pe_get (j := 103) (ci := 12) (n := 7) (by decide +kernel) (by decide +kernel) (md_o hc) rfl ?_
                                      refine pe_top (v := 14) (upf_at ef337) ?_
                                      refine pe_bipushv (n := 99) (v := 99) (by decide +kernel) (by decide +kernel) ?_
                                      refine pz_icmp_ne (off := 7) (t := 176) (by decide +kernel) (by decide) rfl kz_14 kz_99 (fun h338 => ?_) (fun h338 => by omega)
                                      refine pe_iconstv (n := 3) (v := 3) (by decide +kernel) (by decide +kernel) ?_
                                      refine mz_put5 (jj := 93) (by decide +kernel) (by decide +kernel) hc hIf337 (by decide +kernel) (by decide +kernel) (fun f339 ef339 hIf339 => ?_)
                                      refine pe_goto (off := 128) (t := 308) (by decide +kernel) (by decide) rfl ?_
                                      have hx340 : (f339 3).toInt = (f220 3).toInt := (congrArg Int32.toInt (show f339 3 = (f220 3) from (upf_fr ef339 (by decide)).trans (upf_fr ef337 (by decide)))).trans rfl
                                      have hx341 : (f339 5).toInt = 3 := (congrArg Int32.toInt (show f339 5 = 3 from upf_at ef339)).trans kz_3
                                      exact pe_vret (by decide +kernel) rfl ⟨f339, rfl, hIf339, (fun k n3 n4 n5 n6 n7 => (upf_fr ef339 n5).trans ((upf_fr ef337 n7).trans (((hGhIy221 k n3)).trans ((upf_fr ef219 n3).trans ((upf_fr ef4 n4).trans ((hGhIy2 k n3))))))), (by omega), trivial⟩
                                  · skip
                                    refine pe_bipushv (n := 13) (v := 13) (by decide +kernel) (by decide +kernel) ?_
                                    refine pe_iret (by decide +kernel) rfl rfl ⟨rfl, rfl, ?_⟩
                                    show pmE pg X pg_tyl pg_cl (d + 2) 201 159 [.ref 147, .int v11, .int y222] [.int 13, .ref 147] (md wc f220 A) _
                                    refine mz_put7 (jj := 103) (by decide +kernel) (by decide +kernel) hc hIy221 (fun f342 ef342 hIf342 => ?_)
                                    refine pe_aload_n (j := 0) (by decide +kernel) rfl ?_
                                    refine pe_aload_n (j := 0) (by decide +kernel) rfl ?_
                                    refine pe_get (j := 103) (ci := 12) (n := 7) (by decide +kernel) (by decide +kernel) (md_o hc) rfl ?_
                                    refine pe_top (v := 13) (upf_at ef342) ?_
                                    refine pe_bipushv (n := 99) (v := 99) (by decide +kernel) (by decide +kernel) ?_
                                    refine pz_icmp_ne (off := 7) (t := 176) (by decide +kernel) (by decide) rfl kz_13 kz_99 (fun h343 => ?_) (fun h343 => by omega)
                                    refine pe_iconstv (n := 3) (v := 3) (by decide +kernel) (by decide +kernel) ?_
                                    refine mz_put5 (jj := 93) (by decide +kernel) (by decide +kernel) hc hIf342 (by decide +kernel) (by decide +kernel) (fun f344 ef344 hIf344 => ?_)
                                    refine pe_goto (off := 128) (t := 308) (by decide +kernel) (by decide) rfl ?_
                                    have hx345 : (f344 3).toInt = (f220 3).toInt := (congrArg Int32.toInt (show f344 3 = (f220 3) from (upf_fr ef344 (by decide)).trans (upf_fr ef342 (by decide)))).trans rfl
                                    have hx346 : (f344 5).toInt = 3 := (congrArg Int32.toInt (show f344 5 = 3 from upf_at ef344)).trans kz_3
                                    exact pe_vret (by decide +kernel) rfl ⟨f344, rfl, hIf344, (fun k n3 n4 n5 n6 n7 => (upf_fr ef344 n5).trans ((upf_fr ef342 n7).trans (((hGhIy221 k n3)).trans ((upf_fr ef219 n3).trans ((upf_fr ef4 n4).trans ((hGhIy2 k n3))))))), (by omega), trivial⟩
                                · skip
                                  refine pe_bipushv (n := 12) (v := 12) (by decide +kernel) (by decide +kernel) ?_
                                  refine pe_iret (by decide +kernel) rfl rfl ⟨rfl, rfl, ?_⟩
                                  show pmE pg X pg_tyl pg_cl (d + 2) 201 159 [.ref 147, .int v11, .int y222] [.int 12, .ref 147] (md wc f220 A) _
                                  refine mz_put7 (jj := 103) (by decide +kernel) (by decide +kernel) hc hIy221 (fun f347 ef347 hIf347 => ?_)
                                  refine pe_aload_n (j := 0) (by decide +kernel) rfl ?_
                                  refine pe_aload_n (j := 0) (by decide +kernel) rfl ?_
                                  refine pe_get (j := 103) (ci := 12) (n := 7) (by decide +kernel) (by decide +kernel) (md_o hc) rfl ?_
                                  refine pe_top (v := 12) (upf_at ef347) ?_
                                  refine pe_bipushv (n := 99) (v := 99) (by decide +kernel) (by decide +kernel) ?_
                                  refine pz_icmp_ne (off := 7) (t := 176) (by decide +kernel) (by decide) rfl kz_12 kz_99 (fun h348 => ?_) (fun h348 => by omega)
                                  refine pe_iconstv (n := 3) (v := 3) (by decide +kernel) (by decide +kernel) ?_
                                  refine mz_put5 (jj := 93) (by decide +kernel) (by decide +kernel) hc hIf347 (by decide +kernel) (by decide +kernel) (fun f349 ef349 hIf349 => ?_)
                                  refine pe_goto (off := 128) (t := 308) (by decide +kernel) (by decide) rfl ?_
                                  have hx350 : (f349 3).toInt = (f220 3).toInt := (congrArg Int32.toInt (show f349 3 = (f220 3) from (upf_fr ef349 (by decide)).trans (upf_fr ef347 (by decide)))).trans rfl
                                  have hx351 : (f349 5).toInt = 3 := (congrArg Int32.toInt (show f349 5 = 3 from upf_at ef349)).trans kz_3
                                  exact pe_vret (by decide +kernel) rfl ⟨f349, rfl, hIf349, (fun k n3 n4 n5 n6 n7 => (upf_fr ef349 n5).trans ((upf_fr ef347 n7).trans (((hGhIy221 k n3)).trans ((upf_fr ef219 n3).trans ((upf_fr ef4 n4).trans ((hGhIy2 k n3))))))), (by omega), trivial⟩
                              · skip
                                refine pe_bipushv (n := 11) (v := 11) (by decide +kernel) (by decide +kernel) ?_
                                refine pe_iret (by decide +kernel) rfl rfl ⟨rfl, rfl, ?_⟩
                                show pmE pg X pg_tyl pg_cl (d + 2) 201 159 [.ref 147, .int v11, .int y222] [.int 11, .ref 147] (md wc f220 A) _
                                refine mz_put7 (jj := 103) (by decide +kernel) (by decide +kernel) hc hIy221 (fun f352 ef352 hIf352 => ?_)
                                refine pe_aload_n (j := 0) (by decide +kernel) rfl ?_
                                refine pe_aload_n (j := 0) (by decide +kernel) rfl ?_
                                refine pe_get (j := 103) (ci := 12) (n := 7) (by decide +kernel) (by decide +kernel) (md_o hc) rfl ?_
                                refine pe_top (v := 11) (upf_at ef352) ?_
                                refine pe_bipushv (n := 99) (v := 99) (by decide +kernel) (by decide +kernel) ?_
                                refine pz_icmp_ne (off := 7) (t := 176) (by decide +kernel) (by decide) rfl kz_11 kz_99 (fun h353 => ?_) (fun h353 => by omega)
                                refine pe_iconstv (n := 3) (v := 3) (by decide +kernel) (by decide +kernel) ?_
                                refine mz_put5 (jj := 93) (by decide +kernel) (by decide +kernel) hc hIf352 (by decide +kernel) (by decide +kernel) (fun f354 ef354 hIf354 => ?_)
                                refine pe_goto (off := 128) (t := 308) (by decide +kernel) (by decide) rfl ?_
                                have hx355 : (f354 3).toInt = (f220 3).toInt := (congrArg Int32.toInt (show f354 3 = (f220 3) from (upf_fr ef354 (by decide)).trans (upf_fr ef352 (by decide)))).trans rfl
                                have hx356 : (f354 5).toInt = 3 := (congrArg Int32.toInt (show f354 5 = 3 from upf_at ef354)).trans kz_3
                                exact pe_vret (by decide +kernel) rfl ⟨f354, rfl, hIf354, (fun k n3 n4 n5 n6 n7 => (upf_fr ef354 n5).trans ((upf_fr ef352 n7).trans (((hGhIy221 k n3)).trans ((upf_fr ef219 n3).trans ((upf_fr ef4 n4).trans ((hGhIy2 k n3))))))), (by omega), trivial⟩
                            · skip
                              refine pe_bipushv (n := 7) (v := 7) (by decide +kernel) (by decide +kernel) ?_
                              refine pe_iret (by decide +kernel) rfl rfl ⟨rfl, rfl, ?_⟩
                              show pmE pg X pg_tyl pg_cl (d + 2) 201 159 [.ref 147, .int v11, .int y222] [.int 7, .ref 147] (md wc f220 A) _
                              refine mz_put7 (jj := 103) (by decide +kernel) (by decide +kernel) hc hIy221 (fun f357 ef357 hIf357 => ?_)
                              refine pe_aload_n (j := 0) (by decide +kernel) rfl ?_
                              refine pe_aload_n (j := 0) (by decide +kernel) rfl ?_
                              refine pe_get (j := 103) (ci := 12) (n := 7) (by decide +kernel) (by decide +kernel) (md_o hc) rfl ?_
                              refine pe_top (v := 7) (upf_at ef357) ?_
                              refine pe_bipushv (n := 99) (v := 99) (by decide +kernel) (by decide +kernel) ?_
                              refine pz_icmp_ne (off := 7) (t := 176) (by decide +kernel) (by decide) rfl kz_7 kz_99 (fun h358 => ?_) (fun h358 => by omega)
                              refine pe_iconstv (n := 3) (v := 3) (by decide +kernel) (by decide +kernel) ?_
                              refine mz_put5 (jj := 93) (by decide +kernel) (by decide +kernel) hc hIf357 (by decide +kernel) (by decide +kernel) (fun f359 ef359 hIf359 => ?_)
                              refine pe_goto (off := 128) (t := 308) (by decide +kernel) (by decide) rfl ?_
                              have hx360 : (f359 3).toInt = (f220 3).toInt := (congrArg Int32.toInt (show f359 3 = (f220 3) from (upf_fr ef359 (by decide)).trans (upf_fr ef357 (by decide)))).trans rfl
                              have hx361 : (f359 5).toInt = 3 := (congrArg Int32.toInt (show f359 5 = 3 from upf_at ef359)).trans kz_3
                              exact pe_vret (by decide +kernel) rfl ⟨f359, rfl, hIf359, (fun k n3 n4 n5 n6 n7 => (upf_fr ef359 n5).trans ((upf_fr ef357 n7).trans (((hGhIy221 k n3)).trans ((upf_fr ef219 n3).trans ((upf_fr ef4 n4).trans ((hGhIy2 k n3))))))), (by omega), trivial⟩
                          · skip
                            refine pe_bipushv (n := 6) (v := 6) (by decide +kernel) (by decide +kernel) ?_
                            refine pe_iret (by decide +kernel) rfl rfl ⟨rfl, rfl, ?_⟩
                            show pmE pg X pg_tyl pg_cl (d + 2) 201 159 [.ref 147, .int v11, .int y222] [.int 6, .ref 147] (md wc f220 A) _
                            refine mz_put7 (jj := 103) (by decide +kernel) (by decide +kernel) hc hIy221 (fun f362 ef362 hIf362 => ?_)
                            refine pe_aload_n (j := 0) (by decide +kernel) rfl ?_
                            refine pe_aload_n (j := 0) (by decide +kernel) rfl ?_
                            refine pe_get (j := 103) (ci := 12) (n := 7) (by decide +kernel) (by decide +kernel) (md_o hc) rfl ?_
                            refine pe_top (v := 6) (upf_at ef362) ?_
                            refine pe_bipushv (n := 99) (v := 99) (by decide +kernel) (by decide +kernel) ?_
                            refine pz_icmp_ne (off := 7) (t := 176) (by decide +kernel) (by decide) rfl kz_6 kz_99 (fun h363 => ?_) (fun h363 => by omega)
                            refine pe_iconstv (n := 3) (v := 3) (by decide +kernel) (by decide +kernel) ?_
                            refine mz_put5 (jj := 93) (by decide +kernel) (by decide +kernel) hc hIf362 (by decide +kernel) (by decide +kernel) (fun f364 ef364 hIf364 => ?_)
                            refine pe_goto (off := 128) (t := 308) (by decide +kernel) (by decide) rfl ?_
                            have hx365 : (f364 3).toInt = (f220 3).toInt := (congrArg Int32.toInt (show f364 3 = (f220 3) from (upf_fr ef364 (by decide)).trans (upf_fr ef362 (by decide)))).trans rfl
                            have hx366 : (f364 5).toInt = 3 := (congrArg Int32.toInt (show f364 5 = 3 from upf_at ef364)).trans kz_3
                            exact pe_vret (by decide +kernel) rfl ⟨f364, rfl, hIf364, (fun k n3 n4 n5 n6 n7 => (upf_fr ef364 n5).trans ((upf_fr ef362 n7).trans (((hGhIy221 k n3)).trans ((upf_fr ef219 n3).trans ((upf_fr ef4 n4).trans ((hGhIy2 k n3))))))), (by omega), trivial⟩
                        · skip
                          refine pe_iconstv (n := 5) (v := 5) (by decide +kernel) (by decide +kernel) ?_
                          refine pe_iret (by decide +kernel) rfl rfl ⟨rfl, rfl, ?_⟩
                          show pmE pg X pg_tyl pg_cl (d + 2) 201 159 [.ref 147, .int v11, .int y222] [.int 5, .ref 147] (md wc f220 A) _
                          refine mz_put7 (jj := 103) (by decide +kernel) (by decide +kernel) hc hIy221 (fun f367 ef367 hIf367 => ?_)
                          refine pe_aload_n (j := 0) (by decide +kernel) rfl ?_
                          refine pe_aload_n (j := 0) (by decide +kernel) rfl ?_
                          refine pe_get (j := 103) (ci := 12) (n := 7) (by decide +kernel) (by decide +kernel) (md_o hc) rfl ?_
                          refine pe_top (v := 5) (upf_at ef367) ?_
                          refine pe_bipushv (n := 99) (v := 99) (by decide +kernel) (by decide +kernel) ?_
                          refine pz_icmp_ne (off := 7) (t := 176) (by decide +kernel) (by decide) rfl kz_5 kz_99 (fun h368 => ?_) (fun h368 => by omega)
                          refine pe_iconstv (n := 3) (v := 3) (by decide +kernel) (by decide +kernel) ?_
                          refine mz_put5 (jj := 93) (by decide +kernel) (by decide +kernel) hc hIf367 (by decide +kernel) (by decide +kernel) (fun f369 ef369 hIf369 => ?_)
                          refine pe_goto (off := 128) (t := 308) (by decide +kernel) (by decide) rfl ?_
                          have hx370 : (f369 3).toInt = (f220 3).toInt := (congrArg Int32.toInt (show f369 3 = (f220 3) from (upf_fr ef369 (by decide)).trans (upf_fr ef367 (by decide)))).trans rfl
                          have hx371 : (f369 5).toInt = 3 := (congrArg Int32.toInt (show f369 5 = 3 from upf_at ef369)).trans kz_3
                          exact pe_vret (by decide +kernel) rfl ⟨f369, rfl, hIf369, (fun k n3 n4 n5 n6 n7 => (upf_fr ef369 n5).trans ((upf_fr ef367 n7).trans (((hGhIy221 k n3)).trans ((upf_fr ef219 n3).trans ((upf_fr ef4 n4).trans ((hGhIy2 k n3))))))), (by omega), trivial⟩
                      · skip
                        refine pe_iconstv (n := 4) (v := 4) (by decide +kernel) (by decide +kernel) ?_
                        refine pe_iret (by decide +kernel) rfl rfl ⟨rfl, rfl, ?_⟩
                        show pmE pg X pg_tyl pg_cl (d + 2) 201 159 [.ref 147, .int v11, .int y222] [.int 4, .ref 147] (md wc f220 A) _
                        refine mz_put7 (jj := 103) (by decide +kernel) (by decide +kernel) hc hIy221 (fun f372 ef372 hIf372 => ?_)
                        refine pe_aload_n (j := 0) (by decide +kernel) rfl ?_
                        refine pe_aload_n (j := 0) (by decide +kernel) rfl ?_
                        refine pe_get (j := 103) (ci := 12) (n := 7) (by decide +kernel) (by decide +kernel) (md_o hc) rfl ?_
                        refine pe_top (v := 4) (upf_at ef372) ?_
                        refine pe_bipushv (n := 99) (v := 99) (by decide +kernel) (by decide +kernel) ?_
                        refine pz_icmp_ne (off := 7) (t := 176) (by decide +kernel) (by decide) rfl kz_4 kz_99 (fun h373 => ?_) (fun h373 => by omega)
                        refine pe_iconstv (n := 3) (v := 3) (by decide +kernel) (by decide +kernel) ?_
                        refine mz_put5 (jj := 93) (by decide +kernel) (by decide +kernel) hc hIf372 (by decide +kernel) (by decide +kernel) (fun f374 ef374 hIf374 => ?_)
                        refine pe_goto (off := 128) (t := 308) (by decide +kernel) (by decide) rfl ?_
                        have hx375 : (f374 3).toInt = (f220 3).toInt := (congrArg Int32.toInt (show f374 3 = (f220 3) from (upf_fr ef374 (by decide)).trans (upf_fr ef372 (by decide)))).trans rfl
                        have hx376 : (f374 5).toInt = 3 := (congrArg Int32.toInt (show f374 5 = 3 from upf_at ef374)).trans kz_3
                        exact pe_vret (by decide +kernel) rfl ⟨f374, rfl, hIf374, (fun k n3 n4 n5 n6 n7 => (upf_fr ef374 n5).trans ((upf_fr ef372 n7).trans (((hGhIy221 k n3)).trans ((upf_fr ef219 n3).trans ((upf_fr ef4 n4).trans ((hGhIy2 k n3))))))), (by omega), trivial⟩
                    · skip
                      refine pe_iconstv (n := 3) (v := 3) (by decide +kernel) (by decide +kernel) ?_
                      refine pe_iret (by decide +kernel) rfl rfl ⟨rfl, rfl, ?_⟩
                      show pmE pg X pg_tyl pg_cl (d + 2) 201 159 [.ref 147, .int v11, .int y222] [.int 3, .ref 147] (md wc f220 A) _
                      refine mz_put7 (jj := 103) (by decide +kernel) (by decide +kernel) hc hIy221 (fun f377 ef377 hIf377 => ?_)
                      refine pe_aload_n (j := 0) (by decide +kernel) rfl ?_
                      refine pe_aload_n (j := 0) (by decide +kernel) rfl ?_
                      refine pe_get (j := 103) (ci := 12) (n := 7) (by decide +kernel) (by decide +kernel) (md_o hc) rfl ?_
                      refine pe_top (v := 3) (upf_at ef377) ?_
                      refine pe_bipushv (n := 99) (v := 99) (by decide +kernel) (by decide +kernel) ?_
                      refine pz_icmp_ne (off := 7) (t := 176) (by decide +kernel) (by decide) rfl kz_3 kz_99 (fun h378 => ?_) (fun h378 => by omega)
                      refine pe_iconstv (n := 3) (v := 3) (by decide +kernel) (by decide +kernel) ?_
                      refine mz_put5 (jj := 93) (by decide +kernel) (by decide +kernel) hc hIf377 (by decide +kernel) (by decide +kernel) (fun f379 ef379 hIf379 => ?_)
                      refine pe_goto (off := 128) (t := 308) (by decide +kernel) (by decide) rfl ?_
                      have hx380 : (f379 3).toInt = (f220 3).toInt := (congrArg Int32.toInt (show f379 3 = (f220 3) from (upf_fr ef379 (by decide)).trans (upf_fr ef377 (by decide)))).trans rfl
                      have hx381 : (f379 5).toInt = 3 := (congrArg Int32.toInt (show f379 5 = 3 from upf_at ef379)).trans kz_3
                      exact pe_vret (by decide +kernel) rfl ⟨f379, rfl, hIf379, (fun k n3 n4 n5 n6 n7 => (upf_fr ef379 n5).trans ((upf_fr ef377 n7).trans (((hGhIy221 k n3)).trans ((upf_fr ef219 n3).trans ((upf_fr ef4 n4).trans ((hGhIy2 k n3))))))), (by omega), trivial⟩
                  · skip
                    refine pe_iconstv (n := 2) (v := 2) (by decide +kernel) (by decide +kernel) ?_
                    refine pe_iret (by decide +kernel) rfl rfl ⟨rfl, rfl, ?_⟩
                    show pmE pg X pg_tyl pg_cl (d + 2) 201 159 [.ref 147, .int v11, .int y222] [.int 2, .ref 147] (md wc f220 A) _
                    refine mz_put7 (jj := 103) (by decide +kernel) (by decide +kernel) hc hIy221 (fun f382 ef382 hIf382 => ?_)
                    refine pe_aload_n (j := 0) (by decide +kernel) rfl ?_
                    refine pe_aload_n (j := 0) (by decide +kernel) rfl ?_
                    refine pe_get (j := 103) (ci := 12) (n := 7) (by decide +kernel) (by decide +kernel) (md_o hc) rfl ?_
                    refine pe_top (v := 2) (upf_at ef382) ?_
                    refine pe_bipushv (n := 99) (v := 99) (by decide +kernel) (by decide +kernel) ?_
                    refine pz_icmp_ne (off := 7) (t := 176) (by decide +kernel) (by decide) rfl kz_2 kz_99 (fun h383 => ?_) (fun h383 => by omega)
                    refine pe_iconstv (n := 3) (v := 3) (by decide +kernel) (by decide +kernel) ?_
                    refine mz_put5 (jj := 93) (by decide +kernel) (by decide +kernel) hc hIf382 (by decide +kernel) (by decide +kernel) (fun f384 ef384 hIf384 => ?_)
                    refine pe_goto (off := 128) (t := 308) (by decide +kernel) (by decide) rfl ?_
                    have hx385 : (f384 3).toInt = (f220 3).toInt := (congrArg Int32.toInt (show f384 3 = (f220 3) from (upf_fr ef384 (by decide)).trans (upf_fr ef382 (by decide)))).trans rfl
                    have hx386 : (f384 5).toInt = 3 := (congrArg Int32.toInt (show f384 5 = 3 from upf_at ef384)).trans kz_3
                    exact pe_vret (by decide +kernel) rfl ⟨f384, rfl, hIf384, (fun k n3 n4 n5 n6 n7 => (upf_fr ef384 n5).trans ((upf_fr ef382 n7).trans (((hGhIy221 k n3)).trans ((upf_fr ef219 n3).trans ((upf_fr ef4 n4).trans ((hGhIy2 k n3))))))), (by omega), trivial⟩
                · skip
                  refine pe_iconstv (n := 1) (v := 1) (by decide +kernel) (by decide +kernel) ?_
                  refine pe_iret (by decide +kernel) rfl rfl ⟨rfl, rfl, ?_⟩
                  show pmE pg X pg_tyl pg_cl (d + 2) 201 159 [.ref 147, .int v11, .int y222] [.int 1, .ref 147] (md wc f220 A) _
                  refine mz_put7 (jj := 103) (by decide +kernel) (by decide +kernel) hc hIy221 (fun f387 ef387 hIf387 => ?_)
                  refine pe_aload_n (j := 0) (by decide +kernel) rfl ?_
                  refine pe_aload_n (j := 0) (by decide +kernel) rfl ?_
                  refine pe_get (j := 103) (ci := 12) (n := 7) (by decide +kernel) (by decide +kernel) (md_o hc) rfl ?_
                  refine pe_top (v := 1) (upf_at ef387) ?_
                  refine pe_bipushv (n := 99) (v := 99) (by decide +kernel) (by decide +kernel) ?_
                  refine pz_icmp_ne (off := 7) (t := 176) (by decide +kernel) (by decide) rfl kz_1 kz_99 (fun h388 => ?_) (fun h388 => by omega)
                  refine pe_iconstv (n := 3) (v := 3) (by decide +kernel) (by decide +kernel) ?_
                  refine mz_put5 (jj := 93) (by decide +kernel) (by decide +kernel) hc hIf387 (by decide +kernel) (by decide +kernel) (fun f389 ef389 hIf389 => ?_)
                  refine pe_goto (off := 128) (t := 308) (by decide +kernel) (by decide) rfl ?_
                  have hx390 : (f389 3).toInt = (f220 3).toInt := (congrArg Int32.toInt (show f389 3 = (f220 3) from (upf_fr ef389 (by decide)).trans (upf_fr ef387 (by decide)))).trans rfl
                  have hx391 : (f389 5).toInt = 3 := (congrArg Int32.toInt (show f389 5 = 3 from upf_at ef389)).trans kz_3
                  exact pe_vret (by decide +kernel) rfl ⟨f389, rfl, hIf389, (fun k n3 n4 n5 n6 n7 => (upf_fr ef389 n5).trans ((upf_fr ef387 n7).trans (((hGhIy221 k n3)).trans ((upf_fr ef219 n3).trans ((upf_fr ef4 n4).trans ((hGhIy2 k n3))))))), (by omega), trivial⟩
              · skip
                clear hz226
                refine pe_bipushv (n := 99) (v := 99) (by decide +kernel) (by decide +kernel) ?_
                refine pe_goto (off := 7) (t := 159) (by decide +kernel) (by decide) rfl ?_
                refine mz_put7 (jj := 103) (by decide +kernel) (by decide +kernel) hc hIy221 (fun f392 ef392 hIf392 => ?_)
                refine pe_aload_n (j := 0) (by decide +kernel) rfl ?_
                refine pe_aload_n (j := 0) (by decide +kernel) rfl ?_
                refine pe_get (j := 103) (ci := 12) (n := 7) (by decide +kernel) (by decide +kernel) (md_o hc) rfl ?_
                refine pe_top (v := 99) (upf_at ef392) ?_
                refine pe_bipushv (n := 99) (v := 99) (by decide +kernel) (by decide +kernel) ?_
                refine pz_icmp_ne (off := 7) (t := 176) (by decide +kernel) (by decide) rfl kz_99 kz_99 (fun h393 => by omega) (fun h393 => ?_)
                refine pe_iconstv (n := 4) (v := 4) (by decide +kernel) (by decide +kernel) ?_
                refine pe_goto (off := 4) (t := 177) (by decide +kernel) (by decide) rfl ?_
                refine mz_put5 (jj := 93) (by decide +kernel) (by decide +kernel) hc hIf392 (by decide +kernel) (by decide +kernel) (fun f394 ef394 hIf394 => ?_)
                refine pe_goto (off := 128) (t := 308) (by decide +kernel) (by decide) rfl ?_
                have hx395 : (f394 3).toInt = (f220 3).toInt := (congrArg Int32.toInt (show f394 3 = (f220 3) from (upf_fr ef394 (by decide)).trans (upf_fr ef392 (by decide)))).trans rfl
                have hx396 : (f394 5).toInt = 4 := (congrArg Int32.toInt (show f394 5 = 4 from upf_at ef394)).trans kz_4
                exact pe_vret (by decide +kernel) rfl ⟨f394, rfl, hIf394, (fun k n3 n4 n5 n6 n7 => (upf_fr ef394 n5).trans ((upf_fr ef392 n7).trans (((hGhIy221 k n3)).trans ((upf_fr ef219 n3).trans ((upf_fr ef4 n4).trans ((hGhIy2 k n3))))))), (by omega), trivial⟩
            · skip
              refine pe_aload_n (j := 0) (by decide +kernel) rfl ?_
              refine pe_get (j := 7) (ci := 12) (n := 0) (by decide +kernel) (by decide +kernel) (md_o hc) rfl ?_
              refine pe_bipushv (n := 10) (v := 10) (by decide +kernel) (by decide +kernel) ?_
              refine pe_iload_n (j := 1) (by decide +kernel) rfl ?_
              refine pz_add (by decide +kernel) kz_10 rfl (by omega) (by omega) (fun z397 hz397 => ?_)
              refine mz_ld148 (by decide +kernel) hc hIf4 hz397 (by omega) (by omega) (fun v398 ev398 pv398 => ?_)
              rw [ev398.trans ev11.symm]
              clear pv398 ev398 v398
              clear hz397
              refine pe_goto (off := 4) (t := 21) (by decide +kernel) (by decide) rfl ?_
              refine pe_iret (by decide +kernel) rfl rfl ⟨rfl, rfl, ?_⟩
              show pmE pg X pg_tyl pg_cl (d + 2) 201 117 [.ref 147, .int v11, .int 0] [.int v11, .int 0] (md wc f4 A) _
              refine pz_add (by decide +kernel) kz_0 rfl (by omega) (by omega) (fun z399 hz399 => ?_)
              refine pe_bipushv (n := 96) (v := 96) (by decide +kernel) (by decide +kernel) ?_
              refine pz_sub (by decide +kernel) hz399 kz_96 (by omega) (by omega) (fun z400 hz400 => ?_)
              clear hz399
              refine pe_istore_n (j := 2) (ls' := [.ref 147, .int v11, .int z400]) (by decide +kernel) (Nat.le_of_ble_eq_true rfl) rfl ?_
              refine pe_aload_n (j := 0) (by decide +kernel) rfl ?_
              refine pe_dup (by decide +kernel) rfl ?_
              refine pe_get (j := 83) (ci := 12) (n := 3) (by decide +kernel) (by decide +kernel) (md_o hc) rfl ?_
              refine pe_top (v := (f1 3)) (upf_fr ef4 (by decide)) ?_
              refine pe_iconstv (n := 1) (v := 1) (by decide +kernel) (by decide +kernel) ?_
              refine pz_add (by decide +kernel) rfl kz_1 (by omega) (by omega) (fun z401 hz401 => ?_)
              refine mz_put3 (jj := 83) (by decide +kernel) (by decide +kernel) hc hIf4 (by omega) (by omega) (fun f402 ef402 hIf402 => ?_)
              refine pe_goto (off := (-55)) (t := 77) (by decide +kernel) (by decide) rfl ?_
              have hx407 : (f402 3).toInt = ((f1 3).toInt + 1) := (congrArg Int32.toInt (show f402 3 = z401 from upf_at ef402)).trans hz401
              have hx408 : (f402 3).toInt = ((f1 3).toInt + 1) := (congrArg Int32.toInt (show f402 3 = z401 from upf_at ef402)).trans hz401
              refine ML_201_77 hc (by omega) (fun f403 y405 hIy404 hGhIy404 hx406 => ?_) 601 f402 z400 hIf402 (fun k _ => rfl) (by omega) (by have h := hIf402.1 3; simp only [MF] at h; omega)
              have hr_3_f403 := hIy404.1 3
              simp only [MF] at hr_3_f403
              refine pe_aload_n (j := 0) (by decide +kernel) rfl ?_
              refine pe_aload_n (j := 0) (by decide +kernel) rfl ?_
              refine pe_get (j := 83) (ci := 12) (n := 3) (by decide +kernel) (by decide +kernel) (md_o hc) rfl ?_
              refine pe_aload_n (j := 0) (by decide +kernel) rfl ?_
              refine pe_get (j := 90) (ci := 12) (n := 4) (by decide +kernel) (by decide +kernel) (md_o hc) rfl ?_
              refine pe_top (v := (f1 3)) (((hGhIy404 4 (by decide))).trans ((upf_fr ef402 (by decide)).trans (upf_at ef4))) ?_
              refine pz_sub (by decide +kernel) rfl rfl (by omega) (by omega) (fun z409 hz409 => ?_)
              refine pe_bipushv (n := 6) (v := 6) (by decide +kernel) (by decide +kernel) ?_
              refine pz_icmp_le (off := 8) (t := 155) (by decide +kernel) (by decide) rfl hz409 kz_6 (fun h410 => ?_) (fun h410 => ?_)
              · skip
                clear hz409
                refine pe_iload_n (j := 2) (by decide +kernel) rfl ?_
                refine pi_S (j := 100) (mj := 204) (by decide +kernel) (by decide +kernel) rfl ?_
                show pmE pg X pg_tyl pg_cl (d + 1) 204 0 [.int y405] [] (md wc f403 A) _
                refine pe_iload_n (j := 0) (by decide +kernel) rfl ?_
                refine pe_bipushv (n := 16) (v := 16) (by decide +kernel) (by decide +kernel) ?_
                refine pe_iconstv (n := 5) (v := 5) (by decide +kernel) (by decide +kernel) ?_
                refine pe_bipushv (n := 15) (v := 15) (by decide +kernel) (by decide +kernel) ?_
                refine pi_S (j := 78) (mj := 205) (by decide +kernel) (by decide +kernel) rfl ?_
                show pmE pg X pg_tyl pg_cl (d) 205 0 [.int 16, .int 5, .int 15] [] (md wc f403 A) _
                refine pe_iload_n (j := 0) (by decide +kernel) rfl ?_
                refine pe_bipushv (n := 32) (v := 32) (by decide +kernel) (by decide +kernel) ?_
                refine pe_imul (by decide +kernel) ?_
                refine pe_top (v := 512) (by decide +kernel) ?_
                refine pe_iload_n (j := 1) (by decide +kernel) rfl ?_
                refine pe_iadd (by decide +kernel) ?_
                refine pe_top (v := 517) (by decide +kernel) ?_
                refine pe_bipushv (n := 32) (v := 32) (by decide +kernel) (by decide +kernel) ?_
                refine pe_imul (by decide +kernel) ?_
                refine pe_top (v := 16544) (by decide +kernel) ?_
                refine pe_iload_n (j := 2) (by decide +kernel) rfl ?_
                refine pe_iadd (by decide +kernel) ?_
                refine pe_top (v := 16559) (by decide +kernel) ?_
                refine pe_iret (by decide +kernel) rfl rfl ⟨rfl, rfl, ?_⟩
                show pmE pg X pg_tyl pg_cl (d + 1) 204 9 [.int y405] [.int 16559, .int y405] (md wc f403 A) _
                refine pe_ldc (j := 82) (v := 32768) (by decide +kernel) (by decide +kernel) ?_
                refine pe_imul (by decide +kernel) ?_
                refine pe_top (v := 542605312) (by decide +kernel) ?_
                refine pe_bipushv (n := 16) (v := 16) (by decide +kernel) (by decide +kernel) ?_
                refine pe_bipushv (n := 12) (v := 12) (by decide +kernel) (by decide +kernel) ?_
                refine pe_iconstv (n := 5) (v := 5) (by decide +kernel) (by decide +kernel) ?_
                refine pi_S (j := 78) (mj := 205) (by decide +kernel) (by decide +kernel) rfl ?_
                show pmE pg X pg_tyl pg_cl (d) 205 0 [.int 16, .int 12, .int 5] [] (md wc f403 A) _
                refine pe_iload_n (j := 0) (by decide +kernel) rfl ?_
                refine pe_bipushv (n := 32) (v := 32) (by decide +kernel) (by decide +kernel) ?_
                refine pe_imul (by decide +kernel) ?_
                refine pe_top (v := 512) (by decide +kernel) ?_
                refine pe_iload_n (j := 1) (by decide +kernel) rfl ?_
                refine pe_iadd (by decide +kernel) ?_
                refine pe_top (v := 524) (by decide +kernel) ?_
                refine pe_bipushv (n := 32) (v := 32) (by decide +kernel) (by decide +kernel) ?_
                refine pe_imul (by decide +kernel) ?_
                refine pe_top (v := 16768) (by decide +kernel) ?_
                refine pe_iload_n (j := 2) (by decide +kernel) rfl ?_
                refine pe_iadd (by decide +kernel) ?_
                refine pe_top (v := 16773) (by decide +kernel) ?_
                refine pe_iret (by decide +kernel) rfl rfl ⟨rfl, rfl, ?_⟩
                show pmE pg X pg_tyl pg_cl (d + 1) 204 20 [.int y405] [.int 16773, .int 542605312, .int y405] (md wc f403 A) _
                refine pe_iadd (by decide +kernel) ?_
                refine pe_top (v := 542622085) (by decide +kernel) ?_
                have lw422 := zi_lo y405
                have uw422 := zi_hi y405
                refine pz_icmp_ne (off := 5) (t := 26) (by decide +kernel) (by decide) rfl rfl kz_542622085 (fun h421 => ?_) (fun h421 => ?_)
                · skip
                  refine pe_iload_n (j := 0) (by decide +kernel) rfl ?_
                  refine pe_bipushv (n := 23) (v := 23) (by decide +kernel) (by decide +kernel) ?_
                  refine pe_bipushv (n := 15) (v := 15) (by decide +kernel) (by decide +kernel) ?_
                  refine pe_bipushv (n := 18) (v := 18) (by decide +kernel) (by decide +kernel) ?_
                  refine pi_S (j := 78) (mj := 205) (by decide +kernel) (by decide +kernel) rfl ?_
                  show pmE pg X pg_tyl pg_cl (d) 205 0 [.int 23, .int 15, .int 18] [] (md wc f403 A) _
                  refine pe_iload_n (j := 0) (by decide +kernel) rfl ?_
                  refine pe_bipushv (n := 32) (v := 32) (by decide +kernel) (by decide +kernel) ?_
                  refine pe_imul (by decide +kernel) ?_
                  refine pe_top (v := 736) (by decide +kernel) ?_
                  refine pe_iload_n (j := 1) (by decide +kernel) rfl ?_
                  refine pe_iadd (by decide +kernel) ?_
                  refine pe_top (v := 751) (by decide +kernel) ?_
                  refine pe_bipushv (n := 32) (v := 32) (by decide +kernel) (by decide +kernel) ?_
                  refine pe_imul (by decide +kernel) ?_
                  refine pe_top (v := 24032) (by decide +kernel) ?_
                  refine pe_iload_n (j := 2) (by decide +kernel) rfl ?_
                  refine pe_iadd (by decide +kernel) ?_
                  refine pe_top (v := 24050) (by decide +kernel) ?_
                  refine pe_iret (by decide +kernel) rfl rfl ⟨rfl, rfl, ?_⟩
                  show pmE pg X pg_tyl pg_cl (d + 1) 204 36 [.int y405] [.int 24050, .int y405] (md wc f403 A) _
                  refine pe_bipushv (n := 32) (v := 32) (by decide +kernel) (by decide +kernel) ?_
                  refine pe_imul (by decide +kernel) ?_
                  refine pe_top (v := 769600) (by decide +kernel) ?_
                  refine pe_iconstv (n := 4) (v := 4) (by decide +kernel) (by decide +kernel) ?_
                  refine pe_iadd (by decide +kernel) ?_
                  refine pe_top (v := 769604) (by decide +kernel) ?_
                  refine pz_icmp_ne (off := 5) (t := 46) (by decide +kernel) (by decide) rfl rfl kz_769604 (fun h429 => ?_) (fun h429 => ?_)
                  · skip
                    refine pe_iload_n (j := 0) (by decide +kernel) rfl ?_
                    refine pe_iconstv (n := 1) (v := 1) (by decide +kernel) (by decide +kernel) ?_
                    refine pe_bipushv (n := 12) (v := 12) (by decide +kernel) (by decide +kernel) ?_
                    refine pe_bipushv (n := 12) (v := 12) (by decide +kernel) (by decide +kernel) ?_
                    refine pi_S (j := 78) (mj := 205) (by decide +kernel) (by decide +kernel) rfl ?_
                    show pmE pg X pg_tyl pg_cl (d) 205 0 [.int 1, .int 12, .int 12] [] (md wc f403 A) _
                    refine pe_iload_n (j := 0) (by decide +kernel) rfl ?_
                    refine pe_bipushv (n := 32) (v := 32) (by decide +kernel) (by decide +kernel) ?_
                    refine pe_imul (by decide +kernel) ?_
                    refine pe_top (v := 32) (by decide +kernel) ?_
                    refine pe_iload_n (j := 1) (by decide +kernel) rfl ?_
                    refine pe_iadd (by decide +kernel) ?_
                    refine pe_top (v := 44) (by decide +kernel) ?_
                    refine pe_bipushv (n := 32) (v := 32) (by decide +kernel) (by decide +kernel) ?_
                    refine pe_imul (by decide +kernel) ?_
                    refine pe_top (v := 1408) (by decide +kernel) ?_
                    refine pe_iload_n (j := 2) (by decide +kernel) rfl ?_
                    refine pe_iadd (by decide +kernel) ?_
                    refine pe_top (v := 1420) (by decide +kernel) ?_
                    refine pe_iret (by decide +kernel) rfl rfl ⟨rfl, rfl, ?_⟩
                    show pmE pg X pg_tyl pg_cl (d + 1) 204 55 [.int y405] [.int 1420, .int y405] (md wc f403 A) _
                    refine pz_icmp_ne (off := 5) (t := 60) (by decide +kernel) (by decide) rfl rfl kz_1420 (fun h434 => ?_) (fun h434 => ?_)
                    · skip
                      refine pe_iload_n (j := 0) (by decide +kernel) rfl ?_
                      refine pe_bipushv (n := 6) (v := 6) (by decide +kernel) (by decide +kernel) ?_
                      refine pe_iconstv (n := 5) (v := 5) (by decide +kernel) (by decide +kernel) ?_
                      refine pe_iconstv (n := 5) (v := 5) (by decide +kernel) (by decide +kernel) ?_
                      refine pi_S (j := 78) (mj := 205) (by decide +kernel) (by decide +kernel) rfl ?_
                      show pmE pg X pg_tyl pg_cl (d) 205 0 [.int 6, .int 5, .int 5] [] (md wc f403 A) _
                      refine pe_iload_n (j := 0) (by decide +kernel) rfl ?_
                      refine pe_bipushv (n := 32) (v := 32) (by decide +kernel) (by decide +kernel) ?_
                      refine pe_imul (by decide +kernel) ?_
                      refine pe_top (v := 192) (by decide +kernel) ?_
                      refine pe_iload_n (j := 1) (by decide +kernel) rfl ?_
                      refine pe_iadd (by decide +kernel) ?_
                      refine pe_top (v := 197) (by decide +kernel) ?_
                      refine pe_bipushv (n := 32) (v := 32) (by decide +kernel) (by decide +kernel) ?_
                      refine pe_imul (by decide +kernel) ?_
                      refine pe_top (v := 6304) (by decide +kernel) ?_
                      refine pe_iload_n (j := 2) (by decide +kernel) rfl ?_
                      refine pe_iadd (by decide +kernel) ?_
                      refine pe_top (v := 6309) (by decide +kernel) ?_
                      refine pe_iret (by decide +kernel) rfl rfl ⟨rfl, rfl, ?_⟩
                      show pmE pg X pg_tyl pg_cl (d + 1) 204 68 [.int y405] [.int 6309, .int y405] (md wc f403 A) _
                      refine pz_icmp_ne (off := 5) (t := 73) (by decide +kernel) (by decide) rfl rfl kz_6309 (fun h439 => ?_) (fun h439 => ?_)
                      · skip
                        refine pe_iload_n (j := 0) (by decide +kernel) rfl ?_
                        refine pe_bipushv (n := 18) (v := 18) (by decide +kernel) (by decide +kernel) ?_
                        refine pe_bipushv (n := 9) (v := 9) (by decide +kernel) (by decide +kernel) ?_
                        refine pe_bipushv (n := 19) (v := 19) (by decide +kernel) (by decide +kernel) ?_
                        refine pi_S (j := 78) (mj := 205) (by decide +kernel) (by decide +kernel) rfl ?_
                        show pmE pg X pg_tyl pg_cl (d) 205 0 [.int 18, .int 9, .int 19] [] (md wc f403 A) _
                        refine pe_iload_n (j := 0) (by decide +kernel) rfl ?_
                        refine pe_bipushv (n := 32) (v := 32) (by decide +kernel) (by decide +kernel) ?_
                        refine pe_imul (by decide +kernel) ?_
                        refine pe_top (v := 576) (by decide +kernel) ?_
                        refine pe_iload_n (j := 1) (by decide +kernel) rfl ?_
                        refine pe_iadd (by decide +kernel) ?_
                        refine pe_top (v := 585) (by decide +kernel) ?_
                        refine pe_bipushv (n := 32) (v := 32) (by decide +kernel) (by decide +kernel) ?_
                        refine pe_imul (by decide +kernel) ?_
                        refine pe_top (v := 18720) (by decide +kernel) ?_
                        refine pe_iload_n (j := 2) (by decide +kernel) rfl ?_
                        refine pe_iadd (by decide +kernel) ?_
                        refine pe_top (v := 18739) (by decide +kernel) ?_
                        refine pe_iret (by decide +kernel) rfl rfl ⟨rfl, rfl, ?_⟩
                        show pmE pg X pg_tyl pg_cl (d + 1) 204 83 [.int y405] [.int 18739, .int y405] (md wc f403 A) _
                        refine pe_bipushv (n := 32) (v := 32) (by decide +kernel) (by decide +kernel) ?_
                        refine pe_imul (by decide +kernel) ?_
                        refine pe_top (v := 599648) (by decide +kernel) ?_
                        refine pe_bipushv (n := 11) (v := 11) (by decide +kernel) (by decide +kernel) ?_
                        refine pe_iadd (by decide +kernel) ?_
                        refine pe_top (v := 599659) (by decide +kernel) ?_
                        refine pz_icmp_ne (off := 5) (t := 94) (by decide +kernel) (by decide) rfl rfl kz_599659 (fun h446 => ?_) (fun h446 => ?_)
                        · skip
                          refine pe_iload_n (j := 0) (by decide +kernel) rfl ?_
                          refine pe_bipushv (n := 19) (v := 19) (by decide +kernel) (by decide +kernel) ?_
                          refine pe_bipushv (n := 12) (v := 12) (by decide +kernel) (by decide +kernel) ?_
                          refine pe_iconstv (n := 1) (v := 1) (by decide +kernel) (by decide +kernel) ?_
                          refine pi_S (j := 78) (mj := 205) (by decide +kernel) (by decide +kernel) rfl ?_
                          show pmE pg X pg_tyl pg_cl (d) 205 0 [.int 19, .int 12, .int 1] [] (md wc f403 A) _
                          refine pe_iload_n (j := 0) (by decide +kernel) rfl ?_
                          refine pe_bipushv (n := 32) (v := 32) (by decide +kernel) (by decide +kernel) ?_
                          refine pe_imul (by decide +kernel) ?_
                          refine pe_top (v := 608) (by decide +kernel) ?_
                          refine pe_iload_n (j := 1) (by decide +kernel) rfl ?_
                          refine pe_iadd (by decide +kernel) ?_
                          refine pe_top (v := 620) (by decide +kernel) ?_
                          refine pe_bipushv (n := 32) (v := 32) (by decide +kernel) (by decide +kernel) ?_
                          refine pe_imul (by decide +kernel) ?_
                          refine pe_top (v := 19840) (by decide +kernel) ?_
                          refine pe_iload_n (j := 2) (by decide +kernel) rfl ?_
                          refine pe_iadd (by decide +kernel) ?_
                          refine pe_top (v := 19841) (by decide +kernel) ?_
                          refine pe_iret (by decide +kernel) rfl rfl ⟨rfl, rfl, ?_⟩
                          show pmE pg X pg_tyl pg_cl (d + 1) 204 103 [.int y405] [.int 19841, .int y405] (md wc f403 A) _
                          refine pe_sipushv (n := 1024) (v := 1024) (by decide +kernel) (by decide +kernel) ?_
                          refine pe_imul (by decide +kernel) ?_
                          refine pe_top (v := 20317184) (by decide +kernel) ?_
                          refine pe_bipushv (n := 96) (v := 96) (by decide +kernel) (by decide +kernel) ?_
                          refine pe_iadd (by decide +kernel) ?_
                          refine pe_top (v := 20317280) (by decide +kernel) ?_
                          refine pe_bipushv (n := 11) (v := 11) (by decide +kernel) (by decide +kernel) ?_
                          refine pe_iadd (by decide +kernel) ?_
                          refine pe_top (v := 20317291) (by decide +kernel) ?_
                          refine pz_icmp_ne (off := 6) (t := 119) (by decide +kernel) (by decide) rfl rfl kz_20317291 (fun h454 => ?_) (fun h454 => ?_)
                          · skip
                            refine pe_iload_n (j := 0) (by decide +kernel) rfl ?_
                            refine pe_bipushv (n := 23) (v := 23) (by decide +kernel) (by decide +kernel) ?_
                            refine pe_iconstv (n := 1) (v := 1) (by decide +kernel) (by decide +kernel) ?_
                            refine pe_bipushv (n := 14) (v := 14) (by decide +kernel) (by decide +kernel) ?_
                            refine pi_S (j := 78) (mj := 205) (by decide +kernel) (by decide +kernel) rfl ?_
                            show pmE pg X pg_tyl pg_cl (d) 205 0 [.int 23, .int 1, .int 14] [] (md wc f403 A) _
                            refine pe_iload_n (j := 0) (by decide +kernel) rfl ?_
                            refine pe_bipushv (n := 32) (v := 32) (by decide +kernel) (by decide +kernel) ?_
                            refine pe_imul (by decide +kernel) ?_
                            refine pe_top (v := 736) (by decide +kernel) ?_
                            refine pe_iload_n (j := 1) (by decide +kernel) rfl ?_
                            refine pe_iadd (by decide +kernel) ?_
                            refine pe_top (v := 737) (by decide +kernel) ?_
                            refine pe_bipushv (n := 32) (v := 32) (by decide +kernel) (by decide +kernel) ?_
                            refine pe_imul (by decide +kernel) ?_
                            refine pe_top (v := 23584) (by decide +kernel) ?_
                            refine pe_iload_n (j := 2) (by decide +kernel) rfl ?_
                            refine pe_iadd (by decide +kernel) ?_
                            refine pe_top (v := 23598) (by decide +kernel) ?_
                            refine pe_iret (by decide +kernel) rfl rfl ⟨rfl, rfl, ?_⟩
                            show pmE pg X pg_tyl pg_cl (d + 1) 204 128 [.int y405] [.int 23598, .int y405] (md wc f403 A) _
                            refine pe_bipushv (n := 32) (v := 32) (by decide +kernel) (by decide +kernel) ?_
                            refine pe_imul (by decide +kernel) ?_
                            refine pe_top (v := 755136) (by decide +kernel) ?_
                            refine pe_bipushv (n := 20) (v := 20) (by decide +kernel) (by decide +kernel) ?_
                            refine pe_iadd (by decide +kernel) ?_
                            refine pe_top (v := 755156) (by decide +kernel) ?_
                            refine pz_icmp_ne (off := 6) (t := 140) (by decide +kernel) (by decide) rfl rfl kz_755156 (fun h461 => ?_) (fun h461 => ?_)
                            · skip
                              refine pe_iload_n (j := 0) (by decide +kernel) rfl ?_
                              refine pe_bipushv (n := 15) (v := 15) (by decide +kernel) (by decide +kernel) ?_
                              refine pe_bipushv (n := 23) (v := 23) (by decide +kernel) (by decide +kernel) ?_
                              refine pe_iconstv (n := 5) (v := 5) (by decide +kernel) (by decide +kernel) ?_
                              refine pi_S (j := 78) (mj := 205) (by decide +kernel) (by decide +kernel) rfl ?_
                              show pmE pg X pg_tyl pg_cl (d) 205 0 [.int 15, .int 23, .int 5] [] (md wc f403 A) _
                              refine pe_iload_n (j := 0) (by decide +kernel) rfl ?_
                              refine pe_bipushv (n := 32) (v := 32) (by decide +kernel) (by decide +kernel) ?_
                              refine pe_imul (by decide +kernel) ?_
                              refine pe_top (v := 480) (by decide +kernel) ?_
                              refine pe_iload_n (j := 1) (by decide +kernel) rfl ?_
                              refine pe_iadd (by decide +kernel) ?_
                              refine pe_top (v := 503) (by decide +kernel) ?_
                              refine pe_bipushv (n := 32) (v := 32) (by decide +kernel) (by decide +kernel) ?_
                              refine pe_imul (by decide +kernel) ?_
                              refine pe_top (v := 16096) (by decide +kernel) ?_
                              refine pe_iload_n (j := 2) (by decide +kernel) rfl ?_
                              refine pe_iadd (by decide +kernel) ?_
                              refine pe_top (v := 16101) (by decide +kernel) ?_
                              refine pe_iret (by decide +kernel) rfl rfl ⟨rfl, rfl, ?_⟩
                              show pmE pg X pg_tyl pg_cl (d + 1) 204 149 [.int y405] [.int 16101, .int y405] (md wc f403 A) _
                              refine pz_icmp_ne (off := 6) (t := 155) (by decide +kernel) (by decide) rfl rfl kz_16101 (fun h466 => ?_) (fun h466 => ?_)
                              · skip
                                refine pe_iload_n (j := 0) (by decide +kernel) rfl ?_
                                refine pe_bipushv (n := 16) (v := 16) (by decide +kernel) (by decide +kernel) ?_
                                refine pe_iconstv (n := 1) (v := 1) (by decide +kernel) (by decide +kernel) ?_
                                refine pe_bipushv (n := 25) (v := 25) (by decide +kernel) (by decide +kernel) ?_
                                refine pi_S (j := 78) (mj := 205) (by decide +kernel) (by decide +kernel) rfl ?_
                                show pmE pg X pg_tyl pg_cl (d) 205 0 [.int 16, .int 1, .int 25] [] (md wc f403 A) _
                                refine pe_iload_n (j := 0) (by decide +kernel) rfl ?_
                                refine pe_bipushv (n := 32) (v := 32) (by decide +kernel) (by decide +kernel) ?_
                                refine pe_imul (by decide +kernel) ?_
                                refine pe_top (v := 512) (by decide +kernel) ?_
                                refine pe_iload_n (j := 1) (by decide +kernel) rfl ?_
                                refine pe_iadd (by decide +kernel) ?_
                                refine pe_top (v := 513) (by decide +kernel) ?_
                                refine pe_bipushv (n := 32) (v := 32) (by decide +kernel) (by decide +kernel) ?_
                                refine pe_imul (by decide +kernel) ?_
                                refine pe_top (v := 16416) (by decide +kernel) ?_
                                refine pe_iload_n (j := 2) (by decide +kernel) rfl ?_
                                refine pe_iadd (by decide +kernel) ?_
                                refine pe_top (v := 16441) (by decide +kernel) ?_
                                refine pe_iret (by decide +kernel) rfl rfl ⟨rfl, rfl, ?_⟩
                                show pmE pg X pg_tyl pg_cl (d + 1) 204 164 [.int y405] [.int 16441, .int y405] (md wc f403 A) _
                                refine pz_icmp_ne (off := 6) (t := 170) (by decide +kernel) (by decide) rfl rfl kz_16441 (fun h471 => ?_) (fun h471 => ?_)
                                · skip
                                  refine pe_iload_n (j := 0) (by decide +kernel) rfl ?_
                                  refine pe_bipushv (n := 18) (v := 18) (by decide +kernel) (by decide +kernel) ?_
                                  refine pe_bipushv (n := 9) (v := 9) (by decide +kernel) (by decide +kernel) ?_
                                  refine pe_bipushv (n := 14) (v := 14) (by decide +kernel) (by decide +kernel) ?_
                                  refine pi_S (j := 78) (mj := 205) (by decide +kernel) (by decide +kernel) rfl ?_
                                  show pmE pg X pg_tyl pg_cl (d) 205 0 [.int 18, .int 9, .int 14] [] (md wc f403 A) _
                                  refine pe_iload_n (j := 0) (by decide +kernel) rfl ?_
                                  refine pe_bipushv (n := 32) (v := 32) (by decide +kernel) (by decide +kernel) ?_
                                  refine pe_imul (by decide +kernel) ?_
                                  refine pe_top (v := 576) (by decide +kernel) ?_
                                  refine pe_iload_n (j := 1) (by decide +kernel) rfl ?_
                                  refine pe_iadd (by decide +kernel) ?_
                                  refine pe_top (v := 585) (by decide +kernel) ?_
                                  refine pe_bipushv (n := 32) (v := 32) (by decide +kernel) (by decide +kernel) ?_
                                  refine pe_imul (by decide +kernel) ?_
                                  refine pe_top (v := 18720) (by decide +kernel) ?_
                                  refine pe_iload_n (j := 2) (by decide +kernel) rfl ?_
                                  refine pe_iadd (by decide +kernel) ?_
                                  refine pe_top (v := 18734) (by decide +kernel) ?_
                                  refine pe_iret (by decide +kernel) rfl rfl ⟨rfl, rfl, ?_⟩
                                  show pmE pg X pg_tyl pg_cl (d + 1) 204 180 [.int y405] [.int 18734, .int y405] (md wc f403 A) _
                                  refine pe_bipushv (n := 32) (v := 32) (by decide +kernel) (by decide +kernel) ?_
                                  refine pe_imul (by decide +kernel) ?_
                                  refine pe_top (v := 599488) (by decide +kernel) ?_
                                  refine pe_bipushv (n := 7) (v := 7) (by decide +kernel) (by decide +kernel) ?_
                                  refine pe_iadd (by decide +kernel) ?_
                                  refine pe_top (v := 599495) (by decide +kernel) ?_
                                  refine pz_icmp_ne (off := 6) (t := 192) (by decide +kernel) (by decide) rfl rfl kz_599495 (fun h478 => ?_) (fun h478 => ?_)
                                  · skip
                                    refine pe_iload_n (j := 0) (by decide +kernel) rfl ?_
                                    refine pe_bipushv (n := 19) (v := 19) (by decide +kernel) (by decide +kernel) ?_
                                    refine pe_bipushv (n := 20) (v := 20) (by decide +kernel) (by decide +kernel) ?_
                                    refine pe_bipushv (n := 18) (v := 18) (by decide +kernel) (by decide +kernel) ?_
                                    refine pi_S (j := 78) (mj := 205) (by decide +kernel) (by decide +kernel) rfl ?_
                                    show pmE pg X pg_tyl pg_cl (d) 205 0 [.int 19, .int 20, .int 18] [] (md wc f403 A) _
                                    refine pe_iload_n (j := 0) (by decide +kernel) rfl ?_
                                    refine pe_bipushv (n := 32) (v := 32) (by decide +kernel) (by decide +kernel) ?_
                                    refine pe_imul (by decide +kernel) ?_
                                    refine pe_top (v := 608) (by decide +kernel) ?_
                                    refine pe_iload_n (j := 1) (by decide +kernel) rfl ?_
                                    refine pe_iadd (by decide +kernel) ?_
                                    refine pe_top (v := 628) (by decide +kernel) ?_
                                    refine pe_bipushv (n := 32) (v := 32) (by decide +kernel) (by decide +kernel) ?_
                                    refine pe_imul (by decide +kernel) ?_
                                    refine pe_top (v := 20096) (by decide +kernel) ?_
                                    refine pe_iload_n (j := 2) (by decide +kernel) rfl ?_
                                    refine pe_iadd (by decide +kernel) ?_
                                    refine pe_top (v := 20114) (by decide +kernel) ?_
                                    refine pe_iret (by decide +kernel) rfl rfl ⟨rfl, rfl, ?_⟩
                                    show pmE pg X pg_tyl pg_cl (d + 1) 204 202 [.int y405] [.int 20114, .int y405] (md wc f403 A) _
                                    refine pe_ldc (j := 82) (v := 32768) (by decide +kernel) (by decide +kernel) ?_
                                    refine pe_imul (by decide +kernel) ?_
                                    refine pe_top (v := 659095552) (by decide +kernel) ?_
                                    refine pe_bipushv (n := 9) (v := 9) (by decide +kernel) (by decide +kernel) ?_
                                    refine pe_bipushv (n := 11) (v := 11) (by decide +kernel) (by decide +kernel) ?_
                                    refine pe_iconstv (n := 5) (v := 5) (by decide +kernel) (by decide +kernel) ?_
                                    refine pi_S (j := 78) (mj := 205) (by decide +kernel) (by decide +kernel) rfl ?_
                                    show pmE pg X pg_tyl pg_cl (d) 205 0 [.int 9, .int 11, .int 5] [] (md wc f403 A) _
                                    refine pe_iload_n (j := 0) (by decide +kernel) rfl ?_
                                    refine pe_bipushv (n := 32) (v := 32) (by decide +kernel) (by decide +kernel) ?_
                                    refine pe_imul (by decide +kernel) ?_
                                    refine pe_top (v := 288) (by decide +kernel) ?_
                                    refine pe_iload_n (j := 1) (by decide +kernel) rfl ?_
                                    refine pe_iadd (by decide +kernel) ?_
                                    refine pe_top (v := 299) (by decide +kernel) ?_
                                    refine pe_bipushv (n := 32) (v := 32) (by decide +kernel) (by decide +kernel) ?_
                                    refine pe_imul (by decide +kernel) ?_
                                    refine pe_top (v := 9568) (by decide +kernel) ?_
                                    refine pe_iload_n (j := 2) (by decide +kernel) rfl ?_
                                    refine pe_iadd (by decide +kernel) ?_
                                    refine pe_top (v := 9573) (by decide +kernel) ?_
                                    refine pe_iret (by decide +kernel) rfl rfl ⟨rfl, rfl, ?_⟩
                                    show pmE pg X pg_tyl pg_cl (d + 1) 204 213 [.int y405] [.int 9573, .int 659095552, .int y405] (md wc f403 A) _
                                    refine pe_iadd (by decide +kernel) ?_
                                    refine pe_top (v := 659105125) (by decide +kernel) ?_
                                    refine pz_icmp_ne (off := 6) (t := 220) (by decide +kernel) (by decide) rfl rfl kz_659105125 (fun h489 => ?_) (fun h489 => ?_)
                                    · skip
                                      refine pe_iload_n (j := 0) (by decide +kernel) rfl ?_
                                      refine pe_bipushv (n := 6) (v := 6) (by decide +kernel) (by decide +kernel) ?_
                                      refine pe_iconstv (n := 1) (v := 1) (by decide +kernel) (by decide +kernel) ?_
                                      refine pe_bipushv (n := 9) (v := 9) (by decide +kernel) (by decide +kernel) ?_
                                      refine pi_S (j := 78) (mj := 205) (by decide +kernel) (by decide +kernel) rfl ?_
                                      show pmE pg X pg_tyl pg_cl (d) 205 0 [.int 6, .int 1, .int 9] [] (md wc f403 A) _
                                      refine pe_iload_n (j := 0) (by decide +kernel) rfl ?_
                                      refine pe_bipushv (n := 32) (v := 32) (by decide +kernel) (by decide +kernel) ?_
                                      refine pe_imul (by decide +kernel) ?_
                                      refine pe_top (v := 192) (by decide +kernel) ?_
                                      refine pe_iload_n (j := 1) (by decide +kernel) rfl ?_
                                      refine pe_iadd (by decide +kernel) ?_
                                      refine pe_top (v := 193) (by decide +kernel) ?_
                                      refine pe_bipushv (n := 32) (v := 32) (by decide +kernel) (by decide +kernel) ?_
                                      refine pe_imul (by decide +kernel) ?_
                                      refine pe_top (v := 6176) (by decide +kernel) ?_
                                      refine pe_iload_n (j := 2) (by decide +kernel) rfl ?_
                                      refine pe_iadd (by decide +kernel) ?_
                                      refine pe_top (v := 6185) (by decide +kernel) ?_
                                      refine pe_iret (by decide +kernel) rfl rfl ⟨rfl, rfl, ?_⟩
                                      show pmE pg X pg_tyl pg_cl (d + 1) 204 229 [.int y405] [.int 6185, .int y405] (md wc f403 A) _
                                      refine pe_bipushv (n := 32) (v := 32) (by decide +kernel) (by decide +kernel) ?_
                                      refine pe_imul (by decide +kernel) ?_
                                      refine pe_top (v := 197920) (by decide +kernel) ?_
                                      refine pe_bipushv (n := 12) (v := 12) (by decide +kernel) (by decide +kernel) ?_
                                      refine pe_iadd (by decide +kernel) ?_
                                      refine pe_top (v := 197932) (by decide +kernel) ?_
                                      refine pz_icmp_ne (off := 6) (t := 241) (by decide +kernel) (by decide) rfl rfl kz_197932 (fun h496 => ?_) (fun h496 => ?_)
                                      · skip
                                        refine pe_iload_n (j := 0) (by decide +kernel) rfl ?_
                                        refine pe_bipushv (n := 13) (v := 13) (by decide +kernel) (by decide +kernel) ?_
                                        refine pe_bipushv (n := 15) (v := 15) (by decide +kernel) (by decide +kernel) ?_
                                        refine pe_bipushv (n := 14) (v := 14) (by decide +kernel) (by decide +kernel) ?_
                                        refine pi_S (j := 78) (mj := 205) (by decide +kernel) (by decide +kernel) rfl ?_
                                        show pmE pg X pg_tyl pg_cl (d) 205 0 [.int 13, .int 15, .int 14] [] (md wc f403 A) _
                                        refine pe_iload_n (j := 0) (by decide +kernel) rfl ?_
                                        refine pe_bipushv (n := 32) (v := 32) (by decide +kernel) (by decide +kernel) ?_
                                        refine pe_imul (by decide +kernel) ?_
                                        refine pe_top (v := 416) (by decide +kernel) ?_
                                        refine pe_iload_n (j := 1) (by decide +kernel) rfl ?_
                                        refine pe_iadd (by decide +kernel) ?_
                                        refine pe_top (v := 431) (by decide +kernel) ?_
                                        refine pe_bipushv (n := 32) (v := 32) (by decide +kernel) (by decide +kernel) ?_
                                        refine pe_imul (by decide +kernel) ?_
                                        refine pe_top (v := 13792) (by decide +kernel) ?_
                                        refine pe_iload_n (j := 2) (by decide +kernel) rfl ?_
                                        refine pe_iadd (by decide +kernel) ?_
                                        refine pe_top (v := 13806) (by decide +kernel) ?_
                                        refine pe_iret (by decide +kernel) rfl rfl ⟨rfl, rfl, ?_⟩
                                        show pmE pg X pg_tyl pg_cl (d + 1) 204 251 [.int y405] [.int 13806, .int y405] (md wc f403 A) _
                                        refine pe_sipushv (n := 1024) (v := 1024) (by decide +kernel) (by decide +kernel) ?_
                                        refine pe_imul (by decide +kernel) ?_
                                        refine pe_top (v := 14137344) (by decide +kernel) ?_
                                        refine pe_sipushv (n := 640) (v := 640) (by decide +kernel) (by decide +kernel) ?_
                                        refine pe_iadd (by decide +kernel) ?_
                                        refine pe_top (v := 14137984) (by decide +kernel) ?_
                                        refine pe_bipushv (n := 8) (v := 8) (by decide +kernel) (by decide +kernel) ?_
                                        refine pe_iadd (by decide +kernel) ?_
                                        refine pe_top (v := 14137992) (by decide +kernel) ?_
                                        refine pz_icmp_ne (off := 8) (t := 270) (by decide +kernel) (by decide) rfl rfl kz_14137992 (fun h504 => ?_) (fun h504 => ?_)
                                        · skip
                                          refine pe_bipushv (n := 99) (v := 99) (by decide +kernel) (by decide +kernel) ?_
                                          refine pe_iret (by decide +kernel) rfl rfl ⟨rfl, rfl, ?_⟩
                                          show pmE pg X pg_tyl pg_cl (d + 2) 201 159 [.ref 147, .int v11, .int y405] [.int 99, .ref 147] (md wc f403 A) _
                                          refine mz_put7 (jj := 103) (by decide +kernel) (by decide +kernel) hc hIy404 (fun f505 ef505 hIf505 => ?_)
                                          refine pe_aload_n (j := 0) (by decide +kernel) rfl ?_
                                          refine pe_aload_n (j := 0) (by decide +kernel) rfl ?_
                                          refine pe_get (j := 103) (ci := 12) (n := 7) (by decide +kernel) (by decide +kernel) (md_o hc) rfl ?_
                                          refine pe_top (v := 99) (upf_at ef505) ?_
                                          refine pe_bipushv (n := 99) (v := 99) (by decide +kernel) (by decide +kernel) ?_
                                          refine pz_icmp_ne (off := 7) (t := 176) (by decide +kernel) (by decide) rfl kz_99 kz_99 (fun h506 => by omega) (fun h506 => ?_)
                                          refine pe_iconstv (n := 4) (v := 4) (by decide +kernel) (by decide +kernel) ?_
                                          refine pe_goto (off := 4) (t := 177) (by decide +kernel) (by decide) rfl ?_
                                          refine mz_put5 (jj := 93) (by decide +kernel) (by decide +kernel) hc hIf505 (by decide +kernel) (by decide +kernel) (fun f507 ef507 hIf507 => ?_)
                                          refine pe_goto (off := 128) (t := 308) (by decide +kernel) (by decide) rfl ?_
                                          have hx508 : (f507 3).toInt = (f403 3).toInt := (congrArg Int32.toInt (show f507 3 = (f403 3) from (upf_fr ef507 (by decide)).trans (upf_fr ef505 (by decide)))).trans rfl
                                          have hx509 : (f507 5).toInt = 4 := (congrArg Int32.toInt (show f507 5 = 4 from upf_at ef507)).trans kz_4
                                          exact pe_vret (by decide +kernel) rfl ⟨f507, rfl, hIf507, (fun k n3 n4 n5 n6 n7 => (upf_fr ef507 n5).trans ((upf_fr ef505 n7).trans (((hGhIy404 k n3)).trans ((upf_fr ef402 n3).trans ((upf_fr ef4 n4).trans ((hGhIy2 k n3))))))), (by omega), trivial⟩
                                        · skip
                                          refine pe_bipushv (n := 16) (v := 16) (by decide +kernel) (by decide +kernel) ?_
                                          refine pe_goto (off := 5) (t := 272) (by decide +kernel) (by decide) rfl ?_
                                          refine pe_iret (by decide +kernel) rfl rfl ⟨rfl, rfl, ?_⟩
                                          show pmE pg X pg_tyl pg_cl (d + 2) 201 159 [.ref 147, .int v11, .int y405] [.int 16, .ref 147] (md wc f403 A) _
                                          refine mz_put7 (jj := 103) (by decide +kernel) (by decide +kernel) hc hIy404 (fun f510 ef510 hIf510 => ?_)
                                          refine pe_aload_n (j := 0) (by decide +kernel) rfl ?_
                                          refine pe_aload_n (j := 0) (by decide +kernel) rfl ?_
                                          refine pe_get (j := 103) (ci := 12) (n := 7) (by decide +kernel) (by decide +kernel) (md_o hc) rfl ?_
                                          refine pe_top (v := 16) (upf_at ef510) ?_
                                          refine pe_bipushv (n := 99) (v := 99) (by decide +kernel) (by decide +kernel) ?_
                                          refine pz_icmp_ne (off := 7) (t := 176) (by decide +kernel) (by decide) rfl kz_16 kz_99 (fun h511 => ?_) (fun h511 => by omega)
                                          refine pe_iconstv (n := 3) (v := 3) (by decide +kernel) (by decide +kernel) ?_
                                          refine mz_put5 (jj := 93) (by decide +kernel) (by decide +kernel) hc hIf510 (by decide +kernel) (by decide +kernel) (fun f512 ef512 hIf512 => ?_)
                                          refine pe_goto (off := 128) (t := 308) (by decide +kernel) (by decide) rfl ?_
                                          have hx513 : (f512 3).toInt = (f403 3).toInt := (congrArg Int32.toInt (show f512 3 = (f403 3) from (upf_fr ef512 (by decide)).trans (upf_fr ef510 (by decide)))).trans rfl
                                          have hx514 : (f512 5).toInt = 3 := (congrArg Int32.toInt (show f512 5 = 3 from upf_at ef512)).trans kz_3
                                          exact pe_vret (by decide +kernel) rfl ⟨f512, rfl, hIf512, (fun k n3 n4 n5 n6 n7 => (upf_fr ef512 n5).trans ((upf_fr ef510 n7).trans (((hGhIy404 k n3)).trans ((upf_fr ef402 n3).trans ((upf_fr ef4 n4).trans ((hGhIy2 k n3))))))), (by omega), trivial⟩
                                      · skip
                                        refine pe_bipushv (n := 15) (v := 15) (by decide +kernel) (by decide +kernel) ?_
                                        refine pe_iret (by decide +kernel) rfl rfl ⟨rfl, rfl, ?_⟩
                                        show pmE pg X pg_tyl pg_cl (d + 2) 201 159 [.ref 147, .int v11, .int y405] [.int 15, .ref 147] (md wc f403 A) _
                                        refine mz_put7 (jj := 103) (by decide +kernel) (by decide +kernel) hc hIy404 (fun f515 ef515 hIf515 => ?_)
                                        refine pe_aload_n (j := 0) (by decide +kernel) rfl ?_
                                        refine pe_aload_n (j := 0) (by decide +kernel) rfl ?_
                                        refine pe_get (j := 103) (ci := 12) (n := 7) (by decide +kernel) (by decide +kernel) (md_o hc) rfl ?_
                                        refine pe_top (v := 15) (upf_at ef515) ?_
                                        refine pe_bipushv (n := 99) (v := 99) (by decide +kernel) (by decide +kernel) ?_
                                        refine pz_icmp_ne (off := 7) (t := 176) (by decide +kernel) (by decide) rfl kz_15 kz_99 (fun h516 => ?_) (fun h516 => by omega)
                                        refine pe_iconstv (n := 3) (v := 3) (by decide +kernel) (by decide +kernel) ?_
                                        refine mz_put5 (jj := 93) (by decide +kernel) (by decide +kernel) hc hIf515 (by decide +kernel) (by decide +kernel) (fun f517 ef517 hIf517 => ?_)
                                        refine pe_goto (off := 128) (t := 308) (by decide +kernel) (by decide) rfl ?_
                                        have hx518 : (f517 3).toInt = (f403 3).toInt := (congrArg Int32.toInt (show f517 3 = (f403 3) from (upf_fr ef517 (by decide)).trans (upf_fr ef515 (by decide)))).trans rfl
                                        have hx519 : (f517 5).toInt = 3 := (congrArg Int32.toInt (show f517 5 = 3 from upf_at ef517)).trans kz_3
                                        exact pe_vret (by decide +kernel) rfl ⟨f517, rfl, hIf517, (fun k n3 n4 n5 n6 n7 => (upf_fr ef517 n5).trans ((upf_fr ef515 n7).trans (((hGhIy404 k n3)).trans ((upf_fr ef402 n3).trans ((upf_fr ef4 n4).trans ((hGhIy2 k n3))))))), (by omega), trivial⟩
                                    · skip
                                      refine pe_bipushv (n := 14) (v := 14) (by decide +kernel) (by decide +kernel) ?_
                                      refine pe_iret (by decide +kernel) rfl rfl ⟨rfl, rfl, ?_⟩
                                      show pmE pg X pg_tyl pg_cl (d + 2) 201 159 [.ref 147, .int v11, .int y405] [.int 14, .ref 147] (md wc f403 A) _
                                      refine mz_put7 (jj := 103) (by decide +kernel) (by decide +kernel) hc hIy404 (fun f520 ef520 hIf520 => ?_)
                                      refine pe_aload_n (j := 0) (by decide +kernel) rfl ?_
                                      refine pe_aload_n (j := 0) (by decide +kernel) rfl ?_
                                      refine pe_get (j := 103) (ci := 12) (n := 7) (by decide +kernel) (by decide +kernel) (md_o hc) rfl ?_
                                      refine pe_top (v := 14) (upf_at ef520) ?_
                                      refine pe_bipushv (n := 99) (v := 99) (by decide +kernel) (by decide +kernel) ?_
                                      refine pz_icmp_ne (off := 7) (t := 176) (by decide +kernel) (by decide) rfl kz_14 kz_99 (fun h521 => ?_) (fun h521 => by omega)
                                      refine pe_iconstv (n := 3) (v := 3) (by decide +kernel) (by decide +kernel) ?_
                                      refine mz_put5 (jj := 93) (by decide +kernel) (by decide +kernel) hc hIf520 (by decide +kernel) (by decide +kernel) (fun f522 ef522 hIf522 => ?_)
                                      refine pe_goto (off := 128) (t := 308) (by decide +kernel) (by decide) rfl ?_
                                      have hx523 : (f522 3).toInt = (f403 3).toInt := (congrArg Int32.toInt (show f522 3 = (f403 3) from (upf_fr ef522 (by decide)).trans (upf_fr ef520 (by decide)))).trans rfl
                                      have hx524 : (f522 5).toInt = 3 := (congrArg Int32.toInt (show f522 5 = 3 from upf_at ef522)).trans kz_3
                                      exact pe_vret (by decide +kernel) rfl ⟨f522, rfl, hIf522, (fun k n3 n4 n5 n6 n7 => (upf_fr ef522 n5).trans ((upf_fr ef520 n7).trans (((hGhIy404 k n3)).trans ((upf_fr ef402 n3).trans ((upf_fr ef4 n4).trans ((hGhIy2 k n3))))))), (by omega), trivial⟩
                                  · skip
                                    refine pe_bipushv (n := 13) (v := 13) (by decide +kernel) (by decide +kernel) ?_
                                    refine pe_iret (by decide +kernel) rfl rfl ⟨rfl, rfl, ?_⟩
                                    show pmE pg X pg_tyl pg_cl (d + 2) 201 159 [.ref 147, .int v11, .int y405] [.int 13, .ref 147] (md wc f403 A) _
                                    refine mz_put7 (jj := 103) (by decide +kernel) (by decide +kernel) hc hIy404 (fun f525 ef525 hIf525 => ?_)
                                    refine pe_aload_n (j := 0) (by decide +kernel) rfl ?_
                                    refine pe_aload_n (j := 0) (by decide +kernel) rfl ?_
                                    refine pe_get (j := 103) (ci := 12) (n := 7) (by decide +kernel) (by decide +kernel) (md_o hc) rfl ?_
                                    refine pe_top (v := 13) (upf_at ef525) ?_
                                    refine pe_bipushv (n := 99) (v := 99) (by decide +kernel) (by decide +kernel) ?_
                                    refine pz_icmp_ne (off := 7) (t := 176) (by decide +kernel) (by decide) rfl kz_13 kz_99 (fun h526 => ?_) (fun h526 => by omega)
                                    refine pe_iconstv (n := 3) (v := 3) (by decide +kernel) (by decide +kernel) ?_
                                    refine mz_put5 (jj := 93) (by decide +kernel) (by decide +kernel) hc hIf525 (by decide +kernel) (by decide +kernel) (fun f527 ef527 hIf527 => ?_)
                                    refine pe_goto (off := 128) (t := 308) (by decide +kernel) (by decide) rfl ?_
                                    have hx528 : (f527 3).toInt = (f403 3).toInt := (congrArg Int32.toInt (show f527 3 = (f403 3) from (upf_fr ef527 (by decide)).trans (upf_fr ef525 (by decide)))).trans rfl
                                    have hx529 : (f527 5).toInt = 3 := (congrArg Int32.toInt (show f527 5 = 3 from upf_at ef527)).trans kz_3
                                    exact pe_vret (by decide +kernel) rfl ⟨f527, rfl, hIf527, (fun k n3 n4 n5 n6 n7 => (upf_fr ef527 n5).trans ((upf_fr ef525 n7).trans (((hGhIy404 k n3)).trans ((upf_fr ef402 n3).trans ((upf_fr ef4 n4).trans ((hGhIy2 k n3))))))), (by omega), trivial⟩
                                · skip
                                  refine pe_bipushv (n := 12) (v := 12) (by decide +kernel) (by decide +kernel) ?_
                                  refine pe_iret (by decide +kernel) rfl rfl ⟨rfl, rfl, ?_⟩
                                  show pmE pg X pg_tyl pg_cl (d + 2) 201 159 [.ref 147, .int v11, .int y405] [.int 12, .ref 147] (md wc f403 A) _
                                  refine mz_put7 (jj := 103) (by decide +kernel) (by decide +kernel) hc hIy404 (fun f530 ef530 hIf530 => ?_)
                                  refine pe_aload_n (j := 0) (by decide +kernel) rfl ?_
                                  refine pe_aload_n (j := 0) (by decide +kernel) rfl ?_
                                  refine pe_get (j := 103) (ci := 12) (n := 7) (by decide +kernel) (by decide +kernel) (md_o hc) rfl ?_
                                  refine pe_top (v := 12) (upf_at ef530) ?_
                                  refine pe_bipushv (n := 99) (v := 99) (by decide +kernel) (by decide +kernel) ?_
                                  refine pz_icmp_ne (off := 7) (t := 176) (by decide +kernel) (by decide) rfl kz_12 kz_99 (fun h531 => ?_) (fun h531 => by omega)
                                  refine pe_iconstv (n := 3) (v := 3) (by decide +kernel) (by decide +kernel) ?_
                                  refine mz_put5 (jj := 93) (by decide +kernel) (by decide +kernel) hc hIf530 (by decide +kernel) (by decide +kernel) (fun f532 ef532 hIf532 => ?_)
                                  refine pe_goto (off := 128) (t := 308) (by decide +kernel) (by decide) rfl ?_
                                  have hx533 : (f532 3).toInt = (f403 3).toInt := (congrArg Int32.toInt (show f532 3 = (f403 3) from (upf_fr ef532 (by decide)).trans (upf_fr ef530 (by decide)))).trans rfl
                                  have hx534 : (f532 5).toInt = 3 := (congrArg Int32.toInt (show f532 5 = 3 from upf_at ef532)).trans kz_3
                                  exact pe_vret (by decide +kernel) rfl ⟨f532, rfl, hIf532, (fun k n3 n4 n5 n6 n7 => (upf_fr ef532 n5).trans ((upf_fr ef530 n7).trans (((hGhIy404 k n3)).trans ((upf_fr ef402 n3).trans ((upf_fr ef4 n4).trans ((hGhIy2 k n3))))))), (by omega), trivial⟩
                              · skip
                                refine pe_bipushv (n := 11) (v := 11) (by decide +kernel) (by decide +kernel) ?_
                                refine pe_iret (by decide +kernel) rfl rfl ⟨rfl, rfl, ?_⟩
                                show pmE pg X pg_tyl pg_cl (d + 2) 201 159 [.ref 147, .int v11, .int y405] [.int 11, .ref 147] (md wc f403 A) _
                                refine mz_put7 (jj := 103) (by decide +kernel) (by decide +kernel) hc hIy404 (fun f535 ef535 hIf535 => ?_)
                                refine pe_aload_n (j := 0) (by decide +kernel) rfl ?_
                                refine pe_aload_n (j := 0) (by decide +kernel) rfl ?_
                                refine pe_get (j := 103) (ci := 12) (n := 7) (by decide +kernel) (by decide +kernel) (md_o hc) rfl ?_
                                refine pe_top (v := 11) (upf_at ef535) ?_
                                refine pe_bipushv (n := 99) (v := 99) (by decide +kernel) (by decide +kernel) ?_
                                refine pz_icmp_ne (off := 7) (t := 176) (by decide +kernel) (by decide) rfl kz_11 kz_99 (fun h536 => ?_) (fun h536 => by omega)
                                refine pe_iconstv (n := 3) (v := 3) (by decide +kernel) (by decide +kernel) ?_
                                refine mz_put5 (jj := 93) (by decide +kernel) (by decide +kernel) hc hIf535 (by decide +kernel) (by decide +kernel) (fun f537 ef537 hIf537 => ?_)
                                refine pe_goto (off := 128) (t := 308) (by decide +kernel) (by decide) rfl ?_
                                have hx538 : (f537 3).toInt = (f403 3).toInt := (congrArg Int32.toInt (show f537 3 = (f403 3) from (upf_fr ef537 (by decide)).trans (upf_fr ef535 (by decide)))).trans rfl
                                have hx539 : (f537 5).toInt = 3 := (congrArg Int32.toInt (show f537 5 = 3 from upf_at ef537)).trans kz_3
                                exact pe_vret (by decide +kernel) rfl ⟨f537, rfl, hIf537, (fun k n3 n4 n5 n6 n7 => (upf_fr ef537 n5).trans ((upf_fr ef535 n7).trans (((hGhIy404 k n3)).trans ((upf_fr ef402 n3).trans ((upf_fr ef4 n4).trans ((hGhIy2 k n3))))))), (by omega), trivial⟩
                            · skip
                              refine pe_bipushv (n := 7) (v := 7) (by decide +kernel) (by decide +kernel) ?_
                              refine pe_iret (by decide +kernel) rfl rfl ⟨rfl, rfl, ?_⟩
                              show pmE pg X pg_tyl pg_cl (d + 2) 201 159 [.ref 147, .int v11, .int y405] [.int 7, .ref 147] (md wc f403 A) _
                              refine mz_put7 (jj := 103) (by decide +kernel) (by decide +kernel) hc hIy404 (fun f540 ef540 hIf540 => ?_)
                              refine pe_aload_n (j := 0) (by decide +kernel) rfl ?_
                              refine pe_aload_n (j := 0) (by decide +kernel) rfl ?_
                              refine pe_get (j := 103) (ci := 12) (n := 7) (by decide +kernel) (by decide +kernel) (md_o hc) rfl ?_
                              refine pe_top (v := 7) (upf_at ef540) ?_
                              refine pe_bipushv (n := 99) (v := 99) (by decide +kernel) (by decide +kernel) ?_
                              refine pz_icmp_ne (off := 7) (t := 176) (by decide +kernel) (by decide) rfl kz_7 kz_99 (fun h541 => ?_) (fun h541 => by omega)
                              refine pe_iconstv (n := 3) (v := 3) (by decide +kernel) (by decide +kernel) ?_
                              refine mz_put5 (jj := 93) (by decide +kernel) (by decide +kernel) hc hIf540 (by decide +kernel) (by decide +kernel) (fun f542 ef542 hIf542 => ?_)
                              refine pe_goto (off := 128) (t := 308) (by decide +kernel) (by decide) rfl ?_
                              have hx543 : (f542 3).toInt = (f403 3).toInt := (congrArg Int32.toInt (show f542 3 = (f403 3) from (upf_fr ef542 (by decide)).trans (upf_fr ef540 (by decide)))).trans rfl
                              have hx544 : (f542 5).toInt = 3 := (congrArg Int32.toInt (show f542 5 = 3 from upf_at ef542)).trans kz_3
                              exact pe_vret (by decide +kernel) rfl ⟨f542, rfl, hIf542, (fun k n3 n4 n5 n6 n7 => (upf_fr ef542 n5).trans ((upf_fr ef540 n7).trans (((hGhIy404 k n3)).trans ((upf_fr ef402 n3).trans ((upf_fr ef4 n4).trans ((hGhIy2 k n3))))))), (by omega), trivial⟩
                          · skip
                            refine pe_bipushv (n := 6) (v := 6) (by decide +kernel) (by decide +kernel) ?_
                            refine pe_iret (by decide +kernel) rfl rfl ⟨rfl, rfl, ?_⟩
                            show pmE pg X pg_tyl pg_cl (d + 2) 201 159 [.ref 147, .int v11, .int y405] [.int 6, .ref 147] (md wc f403 A) _
                            refine mz_put7 (jj := 103) (by decide +kernel) (by decide +kernel) hc hIy404 (fun f545 ef545 hIf545 => ?_)
                            refine pe_aload_n (j := 0) (by decide +kernel) rfl ?_
                            refine pe_aload_n (j := 0) (by decide +kernel) rfl ?_
                            refine pe_get (j := 103) (ci := 12) (n := 7) (by decide +kernel) (by decide +kernel) (md_o hc) rfl ?_
                            refine pe_top (v := 6) (upf_at ef545) ?_
                            refine pe_bipushv (n := 99) (v := 99) (by decide +kernel) (by decide +kernel) ?_
                            refine pz_icmp_ne (off := 7) (t := 176) (by decide +kernel) (by decide) rfl kz_6 kz_99 (fun h546 => ?_) (fun h546 => by omega)
                            refine pe_iconstv (n := 3) (v := 3) (by decide +kernel) (by decide +kernel) ?_
                            refine mz_put5 (jj := 93) (by decide +kernel) (by decide +kernel) hc hIf545 (by decide +kernel) (by decide +kernel) (fun f547 ef547 hIf547 => ?_)
                            refine pe_goto (off := 128) (t := 308) (by decide +kernel) (by decide) rfl ?_
                            have hx548 : (f547 3).toInt = (f403 3).toInt := (congrArg Int32.toInt (show f547 3 = (f403 3) from (upf_fr ef547 (by decide)).trans (upf_fr ef545 (by decide)))).trans rfl
                            have hx549 : (f547 5).toInt = 3 := (congrArg Int32.toInt (show f547 5 = 3 from upf_at ef547)).trans kz_3
                            exact pe_vret (by decide +kernel) rfl ⟨f547, rfl, hIf547, (fun k n3 n4 n5 n6 n7 => (upf_fr ef547 n5).trans ((upf_fr ef545 n7).trans (((hGhIy404 k n3)).trans ((upf_fr ef402 n3).trans ((upf_fr ef4 n4).trans ((hGhIy2 k n3))))))), (by omega), trivial⟩
                        · skip
                          refine pe_iconstv (n := 5) (v := 5) (by decide +kernel) (by decide +kernel) ?_
                          refine pe_iret (by decide +kernel) rfl rfl ⟨rfl, rfl, ?_⟩
                          show pmE pg X pg_tyl pg_cl (d + 2) 201 159 [.ref 147, .int v11, .int y405] [.int 5, .ref 147] (md wc f403 A) _
                          refine mz_put7 (jj := 103) (by decide +kernel) (by decide +kernel) hc hIy404 (fun f550 ef550 hIf550 => ?_)
                          refine pe_aload_n (j := 0) (by decide +kernel) rfl ?_
                          refine pe_aload_n (j := 0) (by decide +kernel) rfl ?_
                          refine pe_get (j := 103) (ci := 12) (n := 7) (by decide +kernel) (by decide +kernel) (md_o hc) rfl ?_
                          refine pe_top (v := 5) (upf_at ef550) ?_
                          refine pe_bipushv (n := 99) (v := 99) (by decide +kernel) (by decide +kernel) ?_
                          refine pz_icmp_ne (off := 7) (t := 176) (by decide +kernel) (by decide) rfl kz_5 kz_99 (fun h551 => ?_) (fun h551 => by omega)
                          refine pe_iconstv (n := 3) (v := 3) (by decide +kernel) (by decide +kernel) ?_
                          refine mz_put5 (jj := 93) (by decide +kernel) (by decide +kernel) hc hIf550 (by decide +kernel) (by decide +kernel) (fun f552 ef552 hIf552 => ?_)
                          refine pe_goto (off := 128) (t := 308) (by decide +kernel) (by decide) rfl ?_
                          have hx553 : (f552 3).toInt = (f403 3).toInt := (congrArg Int32.toInt (show f552 3 = (f403 3) from (upf_fr ef552 (by decide)).trans (upf_fr ef550 (by decide)))).trans rfl
                          have hx554 : (f552 5).toInt = 3 := (congrArg Int32.toInt (show f552 5 = 3 from upf_at ef552)).trans kz_3
                          exact pe_vret (by decide +kernel) rfl ⟨f552, rfl, hIf552, (fun k n3 n4 n5 n6 n7 => (upf_fr ef552 n5).trans ((upf_fr ef550 n7).trans (((hGhIy404 k n3)).trans ((upf_fr ef402 n3).trans ((upf_fr ef4 n4).trans ((hGhIy2 k n3))))))), (by omega), trivial⟩
                      · skip
                        refine pe_iconstv (n := 4) (v := 4) (by decide +kernel) (by decide +kernel) ?_
                        refine pe_iret (by decide +kernel) rfl rfl ⟨rfl, rfl, ?_⟩
                        show pmE pg X pg_tyl pg_cl (d + 2) 201 159 [.ref 147, .int v11, .int y405] [.int 4, .ref 147] (md wc f403 A) _
                        refine mz_put7 (jj := 103) (by decide +kernel) (by decide +kernel) hc hIy404 (fun f555 ef555 hIf555 => ?_)
                        refine pe_aload_n (j := 0) (by decide +kernel) rfl ?_
                        refine pe_aload_n (j := 0) (by decide +kernel) rfl ?_
                        refine pe_get (j := 103) (ci := 12) (n := 7) (by decide +kernel) (by decide +kernel) (md_o hc) rfl ?_
                        refine pe_top (v := 4) (upf_at ef555) ?_
                        refine pe_bipushv (n := 99) (v := 99) (by decide +kernel) (by decide +kernel) ?_
                        refine pz_icmp_ne (off := 7) (t := 176) (by decide +kernel) (by decide) rfl kz_4 kz_99 (fun h556 => ?_) (fun h556 => by omega)
                        refine pe_iconstv (n := 3) (v := 3) (by decide +kernel) (by decide +kernel) ?_
                        refine mz_put5 (jj := 93) (by decide +kernel) (by decide +kernel) hc hIf555 (by decide +kernel) (by decide +kernel) (fun f557 ef557 hIf557 => ?_)
                        refine pe_goto (off := 128) (t := 308) (by decide +kernel) (by decide) rfl ?_
                        have hx558 : (f557 3).toInt = (f403 3).toInt := (congrArg Int32.toInt (show f557 3 = (f403 3) from (upf_fr ef557 (by decide)).trans (upf_fr ef555 (by decide)))).trans rfl
                        have hx559 : (f557 5).toInt = 3 := (congrArg Int32.toInt (show f557 5 = 3 from upf_at ef557)).trans kz_3
                        exact pe_vret (by decide +kernel) rfl ⟨f557, rfl, hIf557, (fun k n3 n4 n5 n6 n7 => (upf_fr ef557 n5).trans ((upf_fr ef555 n7).trans (((hGhIy404 k n3)).trans ((upf_fr ef402 n3).trans ((upf_fr ef4 n4).trans ((hGhIy2 k n3))))))), (by omega), trivial⟩
                    · skip
                      refine pe_iconstv (n := 3) (v := 3) (by decide +kernel) (by decide +kernel) ?_
                      refine pe_iret (by decide +kernel) rfl rfl ⟨rfl, rfl, ?_⟩
                      show pmE pg X pg_tyl pg_cl (d + 2) 201 159 [.ref 147, .int v11, .int y405] [.int 3, .ref 147] (md wc f403 A) _
                      refine mz_put7 (jj := 103) (by decide +kernel) (by decide +kernel) hc hIy404 (fun f560 ef560 hIf560 => ?_)
                      refine pe_aload_n (j := 0) (by decide +kernel) rfl ?_
                      refine pe_aload_n (j := 0) (by decide +kernel) rfl ?_
                      refine pe_get (j := 103) (ci := 12) (n := 7) (by decide +kernel) (by decide +kernel) (md_o hc) rfl ?_
                      refine pe_top (v := 3) (upf_at ef560) ?_
                      refine pe_bipushv (n := 99) (v := 99) (by decide +kernel) (by decide +kernel) ?_
                      refine pz_icmp_ne (off := 7) (t := 176) (by decide +kernel) (by decide) rfl kz_3 kz_99 (fun h561 => ?_) (fun h561 => by omega)
                      refine pe_iconstv (n := 3) (v := 3) (by decide +kernel) (by decide +kernel) ?_
                      refine mz_put5 (jj := 93) (by decide +kernel) (by decide +kernel) hc hIf560 (by decide +kernel) (by decide +kernel) (fun f562 ef562 hIf562 => ?_)
                      refine pe_goto (off := 128) (t := 308) (by decide +kernel) (by decide) rfl ?_
                      have hx563 : (f562 3).toInt = (f403 3).toInt := (congrArg Int32.toInt (show f562 3 = (f403 3) from (upf_fr ef562 (by decide)).trans (upf_fr ef560 (by decide)))).trans rfl
                      have hx564 : (f562 5).toInt = 3 := (congrArg Int32.toInt (show f562 5 = 3 from upf_at ef562)).trans kz_3
                      exact pe_vret (by decide +kernel) rfl ⟨f562, rfl, hIf562, (fun k n3 n4 n5 n6 n7 => (upf_fr ef562 n5).trans ((upf_fr ef560 n7).trans (((hGhIy404 k n3)).trans ((upf_fr ef402 n3).trans ((upf_fr ef4 n4).trans ((hGhIy2 k n3))))))), (by omega), trivial⟩
                  · skip
                    refine pe_iconstv (n := 2) (v := 2) (by decide +kernel) (by decide +kernel) ?_
                    refine pe_iret (by decide +kernel) rfl rfl ⟨rfl, rfl, ?_⟩
                    show pmE pg X pg_tyl pg_cl (d + 2) 201 159 [.ref 147, .int v11, .int y405] [.int 2, .ref 147] (md wc f403 A) _
                    refine mz_put7 (jj := 103) (by decide +kernel) (by decide +kernel) hc hIy404 (fun f565 ef565 hIf565 => ?_)
                    refine pe_aload_n (j := 0) (by decide +kernel) rfl ?_
                    refine pe_aload_n (j := 0) (by decide +kernel) rfl ?_
                    refine pe_get (j := 103) (ci := 12) (n := 7) (by decide +kernel) (by decide +kernel) (md_o hc) rfl ?_
                    refine pe_top (v := 2) (upf_at ef565) ?_
                    refine pe_bipushv (n := 99) (v := 99) (by decide +kernel) (by decide +kernel) ?_
                    refine pz_icmp_ne (off := 7) (t := 176) (by decide +kernel) (by decide) rfl kz_2 kz_99 (fun h566 => ?_) (fun h566 => by omega)
                    refine pe_iconstv (n := 3) (v := 3) (by decide +kernel) (by decide +kernel) ?_
                    refine mz_put5 (jj := 93) (by decide +kernel) (by decide +kernel) hc hIf565 (by decide +kernel) (by decide +kernel) (fun f567 ef567 hIf567 => ?_)
                    refine pe_goto (off := 128) (t := 308) (by decide +kernel) (by decide) rfl ?_
                    have hx568 : (f567 3).toInt = (f403 3).toInt := (congrArg Int32.toInt (show f567 3 = (f403 3) from (upf_fr ef567 (by decide)).trans (upf_fr ef565 (by decide)))).trans rfl
                    have hx569 : (f567 5).toInt = 3 := (congrArg Int32.toInt (show f567 5 = 3 from upf_at ef567)).trans kz_3
                    exact pe_vret (by decide +kernel) rfl ⟨f567, rfl, hIf567, (fun k n3 n4 n5 n6 n7 => (upf_fr ef567 n5).trans ((upf_fr ef565 n7).trans (((hGhIy404 k n3)).trans ((upf_fr ef402 n3).trans ((upf_fr ef4 n4).trans ((hGhIy2 k n3))))))), (by omega), trivial⟩
                · skip
                  refine pe_iconstv (n := 1) (v := 1) (by decide +kernel) (by decide +kernel) ?_
                  refine pe_iret (by decide +kernel) rfl rfl ⟨rfl, rfl, ?_⟩
                  show pmE pg X pg_tyl pg_cl (d + 2) 201 159 [.ref 147, .int v11, .int y405] [.int 1, .ref 147] (md wc f403 A) _
                  refine mz_put7 (jj := 103) (by decide +kernel) (by decide +kernel) hc hIy404 (fun f570 ef570 hIf570 => ?_)
                  refine pe_aload_n (j := 0) (by decide +kernel) rfl ?_
                  refine pe_aload_n (j := 0) (by decide +kernel) rfl ?_
                  refine pe_get (j := 103) (ci := 12) (n := 7) (by decide +kernel) (by decide +kernel) (md_o hc) rfl ?_
                  refine pe_top (v := 1) (upf_at ef570) ?_
                  refine pe_bipushv (n := 99) (v := 99) (by decide +kernel) (by decide +kernel) ?_
                  refine pz_icmp_ne (off := 7) (t := 176) (by decide +kernel) (by decide) rfl kz_1 kz_99 (fun h571 => ?_) (fun h571 => by omega)
                  refine pe_iconstv (n := 3) (v := 3) (by decide +kernel) (by decide +kernel) ?_
                  refine mz_put5 (jj := 93) (by decide +kernel) (by decide +kernel) hc hIf570 (by decide +kernel) (by decide +kernel) (fun f572 ef572 hIf572 => ?_)
                  refine pe_goto (off := 128) (t := 308) (by decide +kernel) (by decide) rfl ?_
                  have hx573 : (f572 3).toInt = (f403 3).toInt := (congrArg Int32.toInt (show f572 3 = (f403 3) from (upf_fr ef572 (by decide)).trans (upf_fr ef570 (by decide)))).trans rfl
                  have hx574 : (f572 5).toInt = 3 := (congrArg Int32.toInt (show f572 5 = 3 from upf_at ef572)).trans kz_3
                  exact pe_vret (by decide +kernel) rfl ⟨f572, rfl, hIf572, (fun k n3 n4 n5 n6 n7 => (upf_fr ef572 n5).trans ((upf_fr ef570 n7).trans (((hGhIy404 k n3)).trans ((upf_fr ef402 n3).trans ((upf_fr ef4 n4).trans ((hGhIy2 k n3))))))), (by omega), trivial⟩
              · skip
                clear hz409
                refine pe_bipushv (n := 99) (v := 99) (by decide +kernel) (by decide +kernel) ?_
                refine pe_goto (off := 7) (t := 159) (by decide +kernel) (by decide) rfl ?_
                refine mz_put7 (jj := 103) (by decide +kernel) (by decide +kernel) hc hIy404 (fun f575 ef575 hIf575 => ?_)
                refine pe_aload_n (j := 0) (by decide +kernel) rfl ?_
                refine pe_aload_n (j := 0) (by decide +kernel) rfl ?_
                refine pe_get (j := 103) (ci := 12) (n := 7) (by decide +kernel) (by decide +kernel) (md_o hc) rfl ?_
                refine pe_top (v := 99) (upf_at ef575) ?_
                refine pe_bipushv (n := 99) (v := 99) (by decide +kernel) (by decide +kernel) ?_
                refine pz_icmp_ne (off := 7) (t := 176) (by decide +kernel) (by decide) rfl kz_99 kz_99 (fun h576 => by omega) (fun h576 => ?_)
                refine pe_iconstv (n := 4) (v := 4) (by decide +kernel) (by decide +kernel) ?_
                refine pe_goto (off := 4) (t := 177) (by decide +kernel) (by decide) rfl ?_
                refine mz_put5 (jj := 93) (by decide +kernel) (by decide +kernel) hc hIf575 (by decide +kernel) (by decide +kernel) (fun f577 ef577 hIf577 => ?_)
                refine pe_goto (off := 128) (t := 308) (by decide +kernel) (by decide) rfl ?_
                have hx578 : (f577 3).toInt = (f403 3).toInt := (congrArg Int32.toInt (show f577 3 = (f403 3) from (upf_fr ef577 (by decide)).trans (upf_fr ef575 (by decide)))).trans rfl
                have hx579 : (f577 5).toInt = 4 := (congrArg Int32.toInt (show f577 5 = 4 from upf_at ef577)).trans kz_4
                exact pe_vret (by decide +kernel) rfl ⟨f577, rfl, hIf577, (fun k n3 n4 n5 n6 n7 => (upf_fr ef577 n5).trans ((upf_fr ef575 n7).trans (((hGhIy404 k n3)).trans ((upf_fr ef402 n3).trans ((upf_fr ef4 n4).trans ((hGhIy2 k n3))))))), (by omega), trivial⟩
    · skip
      refine pe_aload_n (j := 0) (by decide +kernel) rfl ?_
      refine pe_iconstv (n := 0) (v := 0) (by decide +kernel) (by decide +kernel) ?_
      refine mz_put5 (jj := 93) (by decide +kernel) (by decide +kernel) hc hIf4 (by decide +kernel) (by decide +kernel) (fun f580 ef580 hIf580 => ?_)
      refine pe_goto (off := 243) (t := 308) (by decide +kernel) (by decide) rfl ?_
      have hx581 : (f580 3).toInt = (f1 3).toInt := (congrArg Int32.toInt (show f580 3 = (f1 3) from (upf_fr ef580 (by decide)).trans (upf_fr ef4 (by decide)))).trans rfl
      have hx582 : (f580 5).toInt = 0 := (congrArg Int32.toInt (show f580 5 = 0 from upf_at ef580)).trans kz_0
      exact pe_vret (by decide +kernel) rfl ⟨f580, rfl, hIf580, (fun k n3 n4 n5 n6 n7 => (upf_fr ef580 n5).trans ((upf_fr ef4 n4).trans ((hGhIy2 k n3)))), (by omega), trivial⟩
