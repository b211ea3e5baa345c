set_option maxRecDepth 100000 in
set_option maxHeartbeats 8000000 in
theorem NL_216_30 {X : pm_X} {d : Nat} {wc : pm_W} {Q : pm_R → Prop} {f0 : Nat → Int32} {A0 : Nat → List Int32} (hc : wc.length = 147) (k_163_0 : ∀ (f' : Nat → Int32) (A' : Nat → List Int32) (y1 : Int32) (y2 : Int32) (v3 : Value) (v4 : Value), MI f' A' → (∀ k : Nat, k ≠ 3 → k ≠ 4 → k ≠ 5 → k ≠ 6 → k ≠ 7 → k ≠ 8 → f' k = f0 k) → (∀ k : Nat, k ≠ 148 → k ≠ 151 → A' k = A0 k) → (0 ≤ y1.toInt ∧ y1.toInt ≤ 8004) → TX f0 f' A0 A' → fr (A' 151) 0 = fr (A0 151) 0 → y1.toInt ≤ msr f' + 4 → pmE pg X pg_tyl pg_cl (d + 4) 216 163 [.ref 147, .int y1, .int y2, v3, v4] [] (md wc f' A') Q) : ∀ (m : Nat) (f : Nat → Int32) (A : Nat → List Int32) (x1 : Int32) (x2 : Int32) (u3 : Value) (u4 : Value), MI f A → (∀ k : Nat, k ≠ 3 → k ≠ 4 → k ≠ 5 → k ≠ 6 → k ≠ 7 → k ≠ 8 → f k = f0 k) → (∀ k : Nat, k ≠ 148 → k ≠ 151 → A k = A0 k) → (0 ≤ x1.toInt ∧ x1.toInt ≤ 8004) → TX f0 f A0 A → fr (A 151) 0 = fr (A0 151) 0 → x1.toInt ≤ msr f + 4 → (8000 - msr f).toNat < m → pmE pg X pg_tyl pg_cl (d + 4) 216 30 [.ref 147, .int x1, .int x2, u3, u4] [] (md wc f A) Q := by
  intro m
  induction m with
  | zero =>
    intro f A x1 x2 u3 u4 hI hG hF gx1 hpi0 hpi1 hpi2 hm
    exfalso
    exact absurd hm (Nat.not_lt_zero _)
  | succ m ih =>
    intro f A x1 x2 u3 u4 hI hG hF gx1 hpi0 hpi1 hpi2 hm
    refine pe_aload_n (j := 0) (by decide +kernel) rfl ?_
    refine pe_get (j := 112) (ci := 12) (n := 8) (by decide +kernel) (by decide +kernel) (md_o hc) rfl ?_
    have hr_f_8 := mf_8 hI
    refine pz_if_ne (off := 129) (t := 163) (by decide +kernel) (by decide) rfl rfl (fun h1 => ?_) (fun h1 => ?_)
    · skip
      exact k_163_0 f A x1 x2 (u3) (u4) hI (fun k n3 n4 n5 n6 n7 n8 => (hG k n3 n4 n5 n6 n7 n8)) (fun k n148 n151 => (hF k n148 n151)) (by omega) hpi0 hpi1 hpi2
    · skip
      refine pe_iload_n (j := 1) (by decide +kernel) rfl ?_
      refine pe_iconstv (n := 2) (v := 2) (by decide +kernel) (by decide +kernel) ?_
      refine pz_icmp_lt (off := 11) (t := 50) (by decide +kernel) (by decide) rfl rfl kz_2 (fun h2 => ?_) (fun h2 => ?_)
      · skip
        refine pe_iload_n (j := 1) (by decide +kernel) rfl ?_
        refine pe_bipushv (n := 6) (v := 6) (by decide +kernel) (by decide +kernel) ?_
        refine pz_icmp_lt (off := 20) (t := 73) (by decide +kernel) (by decide) rfl rfl kz_6 (fun h3 => ?_) (fun h3 => by omega)
        refine pe_aload_n (j := 0) (by decide +kernel) rfl ?_
        refine pe_get (j := 93) (ci := 12) (n := 5) (by decide +kernel) (by decide +kernel) (md_o hc) rfl ?_
        have hr_f_5 := mf_5 hI
        refine pe_iconstv (n := 1) (v := 1) (by decide +kernel) (by decide +kernel) ?_
        refine pz_icmp_ne (off := 32) (t := 110) (by decide +kernel) (by decide) rfl rfl kz_1 (fun h4 => ?_) (fun h4 => ?_)
        · skip
          refine pe_iconstv (n := 0) (v := 0) (by decide +kernel) (by decide +kernel) ?_
          refine pe_istore_n (j := 3) (ls' := [.ref 147, .int x1, .int x2, .int 0, u4]) (by decide +kernel) (Nat.le_of_ble_eq_true rfl) rfl ?_
          refine pe_iload_n (j := 3) (by decide +kernel) rfl ?_
          refine pz_if_eq (off := 12) (t := 125) (by decide +kernel) (by decide) rfl kz_0 (fun h5 => ?_) (fun h5 => by omega)
          refine pe_aload_n (j := 0) (by decide +kernel) rfl ?_
          refine pe_iconstv (n := 0) (v := 0) (by decide +kernel) (by decide +kernel) ?_
          refine pe_bipushv (n := 8) (v := 8) (by decide +kernel) (by decide +kernel) ?_
          have hl6 := kz_0
          have hl7 := kz_8
          refine pz_callV (j := 130) (mj := 210) (by decide +kernel) (cll_V (args := [.int 8, .int 0]) (n := 2) (by decide +kernel) rfl rfl (md_o hc) (by decide +kernel) (Nat.le_of_ble_eq_true rfl) (Nat.le_of_ble_eq_true rfl)) (NM_210 hc hI (by decide +kernel) (by decide +kernel) (by omega) hpi0.2.2.2.2) (fun q8a q8b q8c q8d hqq8 => ?_)
          obtain ⟨f9, A10, rq8, eq8, hIq8, hGq8, hFq8, hX0q8, hX1q8, kq8⟩ := hqq8
          cases eq8
          refine ⟨rfl, rfl, ?_⟩
          obtain ⟨kfq8, kq8⟩ := kq8
          obtain ⟨hp11, hp12, kq8⟩ := kq8
          have htx13 := TX_trans hpi0 hp11
          show pmE pg X pg_tyl pg_cl (d + 4) 216 132 [.ref 147, .int x1, .int x2, .int 0, u4] [.int rq8] (md wc f9 A10) _
          refine pe_istore (j := 4) (ls' := [.ref 147, .int x1, .int x2, .int 0, .int rq8]) (by decide +kernel) (Nat.le_of_ble_eq_true rfl) rfl ?_
          have hms14 : msr f < msr f9 := hp12 (by omega)
          have hmb15 := ms_b hIq8
          have hx116 : x1.toInt ≤ 8003 := by omega
          refine pe_iload_n (j := 2) (by decide +kernel) rfl ?_
          refine pe_iconstv (n := 1) (v := 1) (by decide +kernel) (by decide +kernel) ?_
          refine pe_iload (j := 4) (by decide +kernel) rfl ?_
          refine pz_shl1 (by decide +kernel) rfl (by omega) (by omega) (fun z17 hz17 => ?_)
          refine pw_or (by decide +kernel) (fun z18 => ?_)
          refine pe_istore_n (j := 2) (ls' := [.ref 147, .int x1, .int z18, .int 0, .int rq8]) (by decide +kernel) (Nat.le_of_ble_eq_true rfl) rfl ?_
          refine pe_iload_n (j := 1) (by decide +kernel) rfl ?_
          refine pe_bipushv (n := 6) (v := 6) (by decide +kernel) (by decide +kernel) ?_
          refine pz_icmp_ge (off := 13) (t := 157) (by decide +kernel) (by decide) rfl rfl kz_6 (fun h19 => by omega) (fun h19 => ?_)
          refine pe_aload_n (j := 0) (by decide +kernel) rfl ?_
          refine pe_get (j := 20) (ci := 12) (n := 11) (by decide +kernel) (by decide +kernel) (md_o hc) rfl ?_
          refine pe_iconstv (n := 2) (v := 2) (by decide +kernel) (by decide +kernel) ?_
          refine pe_iload_n (j := 1) (by decide +kernel) rfl ?_
          refine pz_add (by decide +kernel) kz_2 rfl (by omega) (by omega) (fun z20 hz20 => ?_)
          refine pe_iload (j := 4) (by decide +kernel) rfl ?_
          refine mz_st151 (by decide +kernel) hc hIq8 hz20 (by omega) (by omega) (fun A21 eA21 hIA21 => ?_)
          refine pz_iinc (j := 1) (n := 1) (by decide +kernel) rfl rfl (by decide +kernel) (by omega) (by omega) (fun z22 hz22 => ?_)
          show pmE pg X pg_tyl pg_cl (d + 4) 216 160 [.ref 147, .int z22, .int z18, .int 0, .int rq8] [] (md wc f9 A21) _
          refine pe_goto (off := (-130)) (t := 30) (by decide +kernel) (by decide) rfl ?_
          have htx23 := TX_fr (f2 := f9) (A2 := A21) htx13 (rfl) (rfl) (rfl) (by rw [show f9 9 = f9 9 from rfl]; exact Int.le_refl _) (upa_fr eA21 (by decide))
          have hts24 := TS_w hp12 (Int.le_of_eq (ms_eq (rfl) (rfl) (rfl)).symm)
          exact ih f9 A21 z22 z18 (.int 0) (.int rq8) hIA21 (fun k n3 n4 n5 n6 n7 n8 => ((hGq8 k n3 n4 n5 n6 n7 n8)).trans ((hG k n3 n4 n5 n6 n7 n8))) (fun k n148 n151 => (upa_fr eA21 n151).trans (((hFq8 k n148)).trans ((hF k n148 n151)))) (by omega) htx23 (by rw [show fr (A21 151) 0 = fr (A10 151) 0 by rw [upa_at eA21, fr_ne (i := (2 + x1.toInt)) (by omega) (by decide) (by omega)], show A10 151 = A 151 from (hFq8 151 (by decide))]; exact hpi1) (by have h := hms14; rw [hz22]; omega) (by have h := hms14; have h2 := ms_b hIA21; omega)
        · skip
          refine pe_aload_n (j := 0) (by decide +kernel) rfl ?_
          refine pe_get (j := 109) (ci := 12) (n := 6) (by decide +kernel) (by decide +kernel) (md_o hc) rfl ?_
          refine pe_iconstv (n := 0) (v := 0) (by decide +kernel) (by decide +kernel) ?_
          refine pe_bipushv (n := 8) (v := 8) (by decide +kernel) (by decide +kernel) ?_
          refine pi_S (j := 119) (mj := 199) (by decide +kernel) (by decide +kernel) rfl ?_
          show pmE pg X pg_tyl pg_cl (d + 3) 199 0 [.int (f 6), .int 0, .int 8] [] (md wc f A) _
          refine pe_iload_n (j := 0) (by decide +kernel) rfl ?_
          refine pe_iload_n (j := 1) (by decide +kernel) rfl ?_
          have lw26 := zi_lo (f 6)
          have uw26 := zi_hi (f 6)
          refine pz_icmp_lt (off := 12) (t := 14) (by decide +kernel) (by decide) rfl rfl kz_0 (fun h25 => ?_) (fun h25 => ?_)
          · skip
            refine pe_iconstv (n := 0) (v := 0) (by decide +kernel) (by decide +kernel) ?_
            refine pe_iret (by decide +kernel) rfl rfl ⟨rfl, rfl, ?_⟩
            show pmE pg X pg_tyl pg_cl (d + 4) 216 91 [.ref 147, .int x1, .int x2, u3, u4] [.int 0] (md wc f A) _
            refine pz_if_eq (off := 19) (t := 110) (by decide +kernel) (by decide) rfl kz_0 (fun h27 => ?_) (fun h27 => by omega)
            refine pe_iconstv (n := 0) (v := 0) (by decide +kernel) (by decide +kernel) ?_
            refine pe_istore_n (j := 3) (ls' := [.ref 147, .int x1, .int x2, .int 0, u4]) (by decide +kernel) (Nat.le_of_ble_eq_true rfl) rfl ?_
            refine pe_iload_n (j := 3) (by decide +kernel) rfl ?_
            refine pz_if_eq (off := 12) (t := 125) (by decide +kernel) (by decide) rfl kz_0 (fun h28 => ?_) (fun h28 => by omega)
            refine pe_aload_n (j := 0) (by decide +kernel) rfl ?_
            refine pe_iconstv (n := 0) (v := 0) (by decide +kernel) (by decide +kernel) ?_
            refine pe_bipushv (n := 8) (v := 8) (by decide +kernel) (by decide +kernel) ?_
            have hl29 := kz_0
            have hl30 := kz_8
            refine pz_callV (j := 130) (mj := 210) (by decide +kernel) (cll_V (args := [.int 8, .int 0]) (n := 2) (by decide +kernel) rfl rfl (md_o hc) (by decide +kernel) (Nat.le_of_ble_eq_true rfl) (Nat.le_of_ble_eq_true rfl)) (NM_210 hc hI (by decide +kernel) (by decide +kernel) (by omega) hpi0.2.2.2.2) (fun q31a q31b q31c q31d hqq31 => ?_)
            obtain ⟨f32, A33, rq31, eq31, hIq31, hGq31, hFq31, hX0q31, hX1q31, kq31⟩ := hqq31
            cases eq31
            refine ⟨rfl, rfl, ?_⟩
            obtain ⟨kfq31, kq31⟩ := kq31
            obtain ⟨hp34, hp35, kq31⟩ := kq31
            have htx36 := TX_trans hpi0 hp34
            show pmE pg X pg_tyl pg_cl (d + 4) 216 132 [.ref 147, .int x1, .int x2, .int 0, u4] [.int rq31] (md wc f32 A33) _
            refine pe_istore (j := 4) (ls' := [.ref 147, .int x1, .int x2, .int 0, .int rq31]) (by decide +kernel) (Nat.le_of_ble_eq_true rfl) rfl ?_
            have hms37 : msr f < msr f32 := hp35 (by omega)
            have hmb38 := ms_b hIq31
            have hx139 : x1.toInt ≤ 8003 := by omega
            refine pe_iload_n (j := 2) (by decide +kernel) rfl ?_
            refine pe_iconstv (n := 1) (v := 1) (by decide +kernel) (by decide +kernel) ?_
            refine pe_iload (j := 4) (by decide +kernel) rfl ?_
            refine pz_shl1 (by decide +kernel) rfl (by omega) (by omega) (fun z40 hz40 => ?_)
            refine pw_or (by decide +kernel) (fun z41 => ?_)
            refine pe_istore_n (j := 2) (ls' := [.ref 147, .int x1, .int z41, .int 0, .int rq31]) (by decide +kernel) (Nat.le_of_ble_eq_true rfl) rfl ?_
            refine pe_iload_n (j := 1) (by decide +kernel) rfl ?_
            refine pe_bipushv (n := 6) (v := 6) (by decide +kernel) (by decide +kernel) ?_
            refine pz_icmp_ge (off := 13) (t := 157) (by decide +kernel) (by decide) rfl rfl kz_6 (fun h42 => by omega) (fun h42 => ?_)
            refine pe_aload_n (j := 0) (by decide +kernel) rfl ?_
            refine pe_get (j := 20) (ci := 12) (n := 11) (by decide +kernel) (by decide +kernel) (md_o hc) rfl ?_
            refine pe_iconstv (n := 2) (v := 2) (by decide +kernel) (by decide +kernel) ?_
            refine pe_iload_n (j := 1) (by decide +kernel) rfl ?_
            refine pz_add (by decide +kernel) kz_2 rfl (by omega) (by omega) (fun z43 hz43 => ?_)
            refine pe_iload (j := 4) (by decide +kernel) rfl ?_
            refine mz_st151 (by decide +kernel) hc hIq31 hz43 (by omega) (by omega) (fun A44 eA44 hIA44 => ?_)
            refine pz_iinc (j := 1) (n := 1) (by decide +kernel) rfl rfl (by decide +kernel) (by omega) (by omega) (fun z45 hz45 => ?_)
            show pmE pg X pg_tyl pg_cl (d + 4) 216 160 [.ref 147, .int z45, .int z41, .int 0, .int rq31] [] (md wc f32 A44) _
            refine pe_goto (off := (-130)) (t := 30) (by decide +kernel) (by decide) rfl ?_
            have htx46 := TX_fr (f2 := f32) (A2 := A44) htx36 (rfl) (rfl) (rfl) (by rw [show f32 9 = f32 9 from rfl]; exact Int.le_refl _) (upa_fr eA44 (by decide))
            have hts47 := TS_w hp35 (Int.le_of_eq (ms_eq (rfl) (rfl) (rfl)).symm)
            exact ih f32 A44 z45 z41 (.int 0) (.int rq31) hIA44 (fun k n3 n4 n5 n6 n7 n8 => ((hGq31 k n3 n4 n5 n6 n7 n8)).trans ((hG k n3 n4 n5 n6 n7 n8))) (fun k n148 n151 => (upa_fr eA44 n151).trans (((hFq31 k n148)).trans ((hF k n148 n151)))) (by omega) htx46 (by rw [show fr (A44 151) 0 = fr (A33 151) 0 by rw [upa_at eA44, fr_ne (i := (2 + x1.toInt)) (by omega) (by decide) (by omega)], show A33 151 = A 151 from (hFq31 151 (by decide))]; exact hpi1) (by have h := hms37; rw [hz45]; omega) (by have h := hms37; have h2 := ms_b hIA44; omega)
          · skip
            refine pe_iload_n (j := 0) (by decide +kernel) rfl ?_
            refine pe_iload_n (j := 2) (by decide +kernel) rfl ?_
            refine pz_icmp_gt (off := 7) (t := 14) (by decide +kernel) (by decide) rfl rfl kz_8 (fun h48 => ?_) (fun h48 => ?_)
            · skip
              refine pe_iconstv (n := 0) (v := 0) (by decide +kernel) (by decide +kernel) ?_
              refine pe_iret (by decide +kernel) rfl rfl ⟨rfl, rfl, ?_⟩
              show pmE pg X pg_tyl pg_cl (d + 4) 216 91 [.ref 147, .int x1, .int x2, u3, u4] [.int 0] (md wc f A) _
              refine pz_if_eq (off := 19) (t := 110) (by decide +kernel) (by decide) rfl kz_0 (fun h49 => ?_) (fun h49 => by omega)
              refine pe_iconstv (n := 0) (v := 0) (by decide +kernel) (by decide +kernel) ?_
              refine pe_istore_n (j := 3) (ls' := [.ref 147, .int x1, .int x2, .int 0, u4]) (by decide +kernel) (Nat.le_of_ble_eq_true rfl) rfl ?_
              refine pe_iload_n (j := 3) (by decide +kernel) rfl ?_
              refine pz_if_eq (off := 12) (t := 125) (by decide +kernel) (by decide) rfl kz_0 (fun h50 => ?_) (fun h50 => by omega)
              refine pe_aload_n (j := 0) (by decide +kernel) rfl ?_
              refine pe_iconstv (n := 0) (v := 0) (by decide +kernel) (by decide +kernel) ?_
              refine pe_bipushv (n := 8) (v := 8) (by decide +kernel) (by decide +kernel) ?_
              have hl51 := kz_0
              have hl52 := kz_8
              refine pz_callV (j := 130) (mj := 210) (by decide +kernel) (cll_V (args := [.int 8, .int 0]) (n := 2) (by decide +kernel) rfl rfl (md_o hc) (by decide +kernel) (Nat.le_of_ble_eq_true rfl) (Nat.le_of_ble_eq_true rfl)) (NM_210 hc hI (by decide +kernel) (by decide +kernel) (by omega) hpi0.2.2.2.2) (fun q53a q53b q53c q53d hqq53 => ?_)
              obtain ⟨f54, A55, rq53, eq53, hIq53, hGq53, hFq53, hX0q53, hX1q53, kq53⟩ := hqq53
              cases eq53
              refine ⟨rfl, rfl, ?_⟩
              obtain ⟨kfq53, kq53⟩ := kq53
              obtain ⟨hp56, hp57, kq53⟩ := kq53
              have htx58 := TX_trans hpi0 hp56
              show pmE pg X pg_tyl pg_cl (d + 4) 216 132 [.ref 147, .int x1, .int x2, .int 0, u4] [.int rq53] (md wc f54 A55) _
              refine pe_istore (j := 4) (ls' := [.ref 147, .int x1, .int x2, .int 0, .int rq53]) (by decide +kernel) (Nat.le_of_ble_eq_true rfl) rfl ?_
              have hms59 : msr f < msr f54 := hp57 (by omega)
              have hmb60 := ms_b hIq53
              have hx161 : x1.toInt ≤ 8003 := by omega
              refine pe_iload_n (j := 2) (by decide +kernel) rfl ?_
              refine pe_iconstv (n := 1) (v := 1) (by decide +kernel) (by decide +kernel) ?_
              refine pe_iload (j := 4) (by decide +kernel) rfl ?_
              refine pz_shl1 (by decide +kernel) rfl (by omega) (by omega) (fun z62 hz62 => ?_)
              refine pw_or (by decide +kernel) (fun z63 => ?_)
              refine pe_istore_n (j := 2) (ls' := [.ref 147, .int x1, .int z63, .int 0, .int rq53]) (by decide +kernel) (Nat.le_of_ble_eq_true rfl) rfl ?_
              refine pe_iload_n (j := 1) (by decide +kernel) rfl ?_
              refine pe_bipushv (n := 6) (v := 6) (by decide +kernel) (by decide +kernel) ?_
              refine pz_icmp_ge (off := 13) (t := 157) (by decide +kernel) (by decide) rfl rfl kz_6 (fun h64 => by omega) (fun h64 => ?_)
              refine pe_aload_n (j := 0) (by decide +kernel) rfl ?_
              refine pe_get (j := 20) (ci := 12) (n := 11) (by decide +kernel) (by decide +kernel) (md_o hc) rfl ?_
              refine pe_iconstv (n := 2) (v := 2) (by decide +kernel) (by decide +kernel) ?_
              refine pe_iload_n (j := 1) (by decide +kernel) rfl ?_
              refine pz_add (by decide +kernel) kz_2 rfl (by omega) (by omega) (fun z65 hz65 => ?_)
              refine pe_iload (j := 4) (by decide +kernel) rfl ?_
              refine mz_st151 (by decide +kernel) hc hIq53 hz65 (by omega) (by omega) (fun A66 eA66 hIA66 => ?_)
              refine pz_iinc (j := 1) (n := 1) (by decide +kernel) rfl rfl (by decide +kernel) (by omega) (by omega) (fun z67 hz67 => ?_)
              show pmE pg X pg_tyl pg_cl (d + 4) 216 160 [.ref 147, .int z67, .int z63, .int 0, .int rq53] [] (md wc f54 A66) _
              refine pe_goto (off := (-130)) (t := 30) (by decide +kernel) (by decide) rfl ?_
              have htx68 := TX_fr (f2 := f54) (A2 := A66) htx58 (rfl) (rfl) (rfl) (by rw [show f54 9 = f54 9 from rfl]; exact Int.le_refl _) (upa_fr eA66 (by decide))
              have hts69 := TS_w hp57 (Int.le_of_eq (ms_eq (rfl) (rfl) (rfl)).symm)
              exact ih f54 A66 z67 z63 (.int 0) (.int rq53) hIA66 (fun k n3 n4 n5 n6 n7 n8 => ((hGq53 k n3 n4 n5 n6 n7 n8)).trans ((hG k n3 n4 n5 n6 n7 n8))) (fun k n148 n151 => (upa_fr eA66 n151).trans (((hFq53 k n148)).trans ((hF k n148 n151)))) (by omega) htx68 (by rw [show fr (A66 151) 0 = fr (A55 151) 0 by rw [upa_at eA66, fr_ne (i := (2 + x1.toInt)) (by omega) (by decide) (by omega)], show A55 151 = A 151 from (hFq53 151 (by decide))]; exact hpi1) (by have h := hms59; rw [hz67]; omega) (by have h := hms59; have h2 := ms_b hIA66; omega)
            · skip
              refine pe_iconstv (n := 1) (v := 1) (by decide +kernel) (by decide +kernel) ?_
              refine pe_goto (off := 4) (t := 15) (by decide +kernel) (by decide) rfl ?_
              refine pe_iret (by decide +kernel) rfl rfl ⟨rfl, rfl, ?_⟩
              show pmE pg X pg_tyl pg_cl (d + 4) 216 91 [.ref 147, .int x1, .int x2, u3, u4] [.int 1] (md wc f A) _
              refine pz_if_eq (off := 19) (t := 110) (by decide +kernel) (by decide) rfl kz_1 (fun h70 => by omega) (fun h70 => ?_)
              refine pe_iload_n (j := 2) (by decide +kernel) rfl ?_
              refine pe_aload_n (j := 0) (by decide +kernel) rfl ?_
              refine pe_get (j := 109) (ci := 12) (n := 6) (by decide +kernel) (by decide +kernel) (md_o hc) rfl ?_
              refine pw_shr (by decide +kernel) (fun z71 => ?_)
              refine pe_iconstv (n := 1) (v := 1) (by decide +kernel) (by decide +kernel) ?_
              refine pz_and1 (by decide +kernel) (fun z72 hz72 => ?_)
              refine pe_iconstv (n := 1) (v := 1) (by decide +kernel) (by decide +kernel) ?_
              refine pz_icmp_ne (off := 7) (t := 110) (by decide +kernel) (by decide) rfl rfl kz_1 (fun h73 => ?_) (fun h73 => ?_)
              · skip
                refine pe_iconstv (n := 0) (v := 0) (by decide +kernel) (by decide +kernel) ?_
                refine pe_istore_n (j := 3) (ls' := [.ref 147, .int x1, .int x2, .int 0, u4]) (by decide +kernel) (Nat.le_of_ble_eq_true rfl) rfl ?_
                refine pe_iload_n (j := 3) (by decide +kernel) rfl ?_
                refine pz_if_eq (off := 12) (t := 125) (by decide +kernel) (by decide) rfl kz_0 (fun h74 => ?_) (fun h74 => by omega)
                refine pe_aload_n (j := 0) (by decide +kernel) rfl ?_
                refine pe_iconstv (n := 0) (v := 0) (by decide +kernel) (by decide +kernel) ?_
                refine pe_bipushv (n := 8) (v := 8) (by decide +kernel) (by decide +kernel) ?_
                have hl75 := kz_0
                have hl76 := kz_8
                refine pz_callV (j := 130) (mj := 210) (by decide +kernel) (cll_V (args := [.int 8, .int 0]) (n := 2) (by decide +kernel) rfl rfl (md_o hc) (by decide +kernel) (Nat.le_of_ble_eq_true rfl) (Nat.le_of_ble_eq_true rfl)) (NM_210 hc hI (by decide +kernel) (by decide +kernel) (by omega) hpi0.2.2.2.2) (fun q77a q77b q77c q77d hqq77 => ?_)
                obtain ⟨f78, A79, rq77, eq77, hIq77, hGq77, hFq77, hX0q77, hX1q77, kq77⟩ := hqq77
                cases eq77
                refine ⟨rfl, rfl, ?_⟩
                obtain ⟨kfq77, kq77⟩ := kq77
                obtain ⟨hp80, hp81, kq77⟩ := kq77
                have htx82 := TX_trans hpi0 hp80
                show pmE pg X pg_tyl pg_cl (d + 4) 216 132 [.ref 147, .int x1, .int x2, .int 0, u4] [.int rq77] (md wc f78 A79) _
                refine pe_istore (j := 4) (ls' := [.ref 147, .int x1, .int x2, .int 0, .int rq77]) (by decide +kernel) (Nat.le_of_ble_eq_true rfl) rfl ?_
                have hms83 : msr f < msr f78 := hp81 (by omega)
                have hmb84 := ms_b hIq77
                have hx185 : x1.toInt ≤ 8003 := by omega
                refine pe_iload_n (j := 2) (by decide +kernel) rfl ?_
                refine pe_iconstv (n := 1) (v := 1) (by decide +kernel) (by decide +kernel) ?_
                refine pe_iload (j := 4) (by decide +kernel) rfl ?_
                refine pz_shl1 (by decide +kernel) rfl (by omega) (by omega) (fun z86 hz86 => ?_)
                refine pw_or (by decide +kernel) (fun z87 => ?_)
                refine pe_istore_n (j := 2) (ls' := [.ref 147, .int x1, .int z87, .int 0, .int rq77]) (by decide +kernel) (Nat.le_of_ble_eq_true rfl) rfl ?_
                refine pe_iload_n (j := 1) (by decide +kernel) rfl ?_
                refine pe_bipushv (n := 6) (v := 6) (by decide +kernel) (by decide +kernel) ?_
                refine pz_icmp_ge (off := 13) (t := 157) (by decide +kernel) (by decide) rfl rfl kz_6 (fun h88 => by omega) (fun h88 => ?_)
                refine pe_aload_n (j := 0) (by decide +kernel) rfl ?_
                refine pe_get (j := 20) (ci := 12) (n := 11) (by decide +kernel) (by decide +kernel) (md_o hc) rfl ?_
                refine pe_iconstv (n := 2) (v := 2) (by decide +kernel) (by decide +kernel) ?_
                refine pe_iload_n (j := 1) (by decide +kernel) rfl ?_
                refine pz_add (by decide +kernel) kz_2 rfl (by omega) (by omega) (fun z89 hz89 => ?_)
                refine pe_iload (j := 4) (by decide +kernel) rfl ?_
                refine mz_st151 (by decide +kernel) hc hIq77 hz89 (by omega) (by omega) (fun A90 eA90 hIA90 => ?_)
                refine pz_iinc (j := 1) (n := 1) (by decide +kernel) rfl rfl (by decide +kernel) (by omega) (by omega) (fun z91 hz91 => ?_)
                show pmE pg X pg_tyl pg_cl (d + 4) 216 160 [.ref 147, .int z91, .int z87, .int 0, .int rq77] [] (md wc f78 A90) _
                refine pe_goto (off := (-130)) (t := 30) (by decide +kernel) (by decide) rfl ?_
                have htx92 := TX_fr (f2 := f78) (A2 := A90) htx82 (rfl) (rfl) (rfl) (by rw [show f78 9 = f78 9 from rfl]; exact Int.le_refl _) (upa_fr eA90 (by decide))
                have hts93 := TS_w hp81 (Int.le_of_eq (ms_eq (rfl) (rfl) (rfl)).symm)
                exact ih f78 A90 z91 z87 (.int 0) (.int rq77) hIA90 (fun k n3 n4 n5 n6 n7 n8 => ((hGq77 k n3 n4 n5 n6 n7 n8)).trans ((hG k n3 n4 n5 n6 n7 n8))) (fun k n148 n151 => (upa_fr eA90 n151).trans (((hFq77 k n148)).trans ((hF k n148 n151)))) (by omega) htx92 (by rw [show fr (A90 151) 0 = fr (A79 151) 0 by rw [upa_at eA90, fr_ne (i := (2 + x1.toInt)) (by omega) (by decide) (by omega)], show A79 151 = A 151 from (hFq77 151 (by decide))]; exact hpi1) (by have h := hms83; rw [hz91]; omega) (by have h := hms83; have h2 := ms_b hIA90; omega)
              · skip
                refine pe_iconstv (n := 1) (v := 1) (by decide +kernel) (by decide +kernel) ?_
                refine pe_goto (off := 4) (t := 111) (by decide +kernel) (by decide) rfl ?_
                refine pe_istore_n (j := 3) (ls' := [.ref 147, .int x1, .int x2, .int 1, u4]) (by decide +kernel) (Nat.le_of_ble_eq_true rfl) rfl ?_
                refine pe_iload_n (j := 3) (by decide +kernel) rfl ?_
                refine pz_if_eq (off := 12) (t := 125) (by decide +kernel) (by decide) rfl kz_1 (fun h94 => by omega) (fun h94 => ?_)
                refine pe_aload_n (j := 0) (by decide +kernel) rfl ?_
                refine pe_iconstv (n := 2) (v := 2) (by decide +kernel) (by decide +kernel) ?_
                refine pe_aload_n (j := 0) (by decide +kernel) rfl ?_
                refine pe_get (j := 90) (ci := 12) (n := 4) (by decide +kernel) (by decide +kernel) (md_o hc) rfl ?_
                refine pz_callV (j := 123) (mj := 211) (by decide +kernel) (cll_V (args := [.int (f 4), .int 2]) (n := 2) (by decide +kernel) rfl rfl (md_o hc) (by decide +kernel) (Nat.le_of_ble_eq_true rfl) (Nat.le_of_ble_eq_true rfl)) (NM_211 hc hI (by decide +kernel) hpi0.2.2.2.2) (fun q95a q95b q95c q95d hqq95 => ?_)
                obtain ⟨A96, eq95, hIq95, hFq95, kq95⟩ := hqq95
                cases eq95
                refine ⟨rfl, rfl, ?_⟩
                obtain ⟨hp97, hp98, kq95⟩ := kq95
                have htx99 := TX_trans hpi0 hp97
                show pmE pg X pg_tyl pg_cl (d + 4) 216 125 [.ref 147, .int x1, .int x2, .int 1, u4] [] (md wc f A96) _
                refine pe_aload_n (j := 0) (by decide +kernel) rfl ?_
                refine pe_iconstv (n := 0) (v := 0) (by decide +kernel) (by decide +kernel) ?_
                refine pe_bipushv (n := 8) (v := 8) (by decide +kernel) (by decide +kernel) ?_
                have hl100 := kz_0
                have hl101 := kz_8
                refine pz_callV (j := 130) (mj := 210) (by decide +kernel) (cll_V (args := [.int 8, .int 0]) (n := 2) (by decide +kernel) rfl rfl (md_o hc) (by decide +kernel) (Nat.le_of_ble_eq_true rfl) (Nat.le_of_ble_eq_true rfl)) (NM_210 hc hIq95 (by decide +kernel) (by decide +kernel) (by omega) htx99.2.2.2.2) (fun q102a q102b q102c q102d hqq102 => ?_)
                obtain ⟨f103, A104, rq102, eq102, hIq102, hGq102, hFq102, hX0q102, hX1q102, kq102⟩ := hqq102
                cases eq102
                refine ⟨rfl, rfl, ?_⟩
                obtain ⟨kfq102, kq102⟩ := kq102
                obtain ⟨hp105, hp106, kq102⟩ := kq102
                have htx107 := TX_trans htx99 hp105
                have hft108 := hp105.1 hp98
                show pmE pg X pg_tyl pg_cl (d + 4) 216 132 [.ref 147, .int x1, .int x2, .int 1, u4] [.int rq102] (md wc f103 A104) _
                refine pe_istore (j := 4) (ls' := [.ref 147, .int x1, .int x2, .int 1, .int rq102]) (by decide +kernel) (Nat.le_of_ble_eq_true rfl) rfl ?_
                have hms109 : msr f < msr f103 := hp106 (by omega)
                have hmb110 := ms_b hIq102
                have hx1111 : x1.toInt ≤ 8003 := by omega
                refine pe_iload_n (j := 2) (by decide +kernel) rfl ?_
                refine pe_iconstv (n := 1) (v := 1) (by decide +kernel) (by decide +kernel) ?_
                refine pe_iload (j := 4) (by decide +kernel) rfl ?_
                refine pz_shl1 (by decide +kernel) rfl (by omega) (by omega) (fun z112 hz112 => ?_)
                refine pw_or (by decide +kernel) (fun z113 => ?_)
                refine pe_istore_n (j := 2) (ls' := [.ref 147, .int x1, .int z113, .int 1, .int rq102]) (by decide +kernel) (Nat.le_of_ble_eq_true rfl) rfl ?_
                refine pe_iload_n (j := 1) (by decide +kernel) rfl ?_
                refine pe_bipushv (n := 6) (v := 6) (by decide +kernel) (by decide +kernel) ?_
                refine pz_icmp_ge (off := 13) (t := 157) (by decide +kernel) (by decide) rfl rfl kz_6 (fun h114 => by omega) (fun h114 => ?_)
                refine pe_aload_n (j := 0) (by decide +kernel) rfl ?_
                refine pe_get (j := 20) (ci := 12) (n := 11) (by decide +kernel) (by decide +kernel) (md_o hc) rfl ?_
                refine pe_iconstv (n := 2) (v := 2) (by decide +kernel) (by decide +kernel) ?_
                refine pe_iload_n (j := 1) (by decide +kernel) rfl ?_
                refine pz_add (by decide +kernel) kz_2 rfl (by omega) (by omega) (fun z115 hz115 => ?_)
                refine pe_iload (j := 4) (by decide +kernel) rfl ?_
                refine mz_st151 (by decide +kernel) hc hIq102 hz115 (by omega) (by omega) (fun A116 eA116 hIA116 => ?_)
                refine pz_iinc (j := 1) (n := 1) (by decide +kernel) rfl rfl (by decide +kernel) (by omega) (by omega) (fun z117 hz117 => ?_)
                show pmE pg X pg_tyl pg_cl (d + 4) 216 160 [.ref 147, .int z117, .int z113, .int 1, .int rq102] [] (md wc f103 A116) _
                refine pe_goto (off := (-130)) (t := 30) (by decide +kernel) (by decide) rfl ?_
                have htx118 := TX_fr (f2 := f103) (A2 := A116) htx107 (rfl) (rfl) (rfl) (by rw [show f103 9 = f103 9 from rfl]; exact Int.le_refl _) (upa_fr eA116 (by decide))
                have hts119 := TS_w hp106 (Int.le_of_eq (ms_eq (rfl) (rfl) (rfl)).symm)
                exact ih f103 A116 z117 z113 (.int 1) (.int rq102) hIA116 (fun k n3 n4 n5 n6 n7 n8 => ((hGq102 k n3 n4 n5 n6 n7 n8)).trans ((hG k n3 n4 n5 n6 n7 n8))) (fun k n148 n151 => (upa_fr eA116 n151).trans (((hFq102 k n148)).trans (((hFq95 k n148)).trans ((hF k n148 n151))))) (by omega) htx118 (by rw [show fr (A116 151) 0 = fr (A104 151) 0 by rw [upa_at eA116, fr_ne (i := (2 + x1.toInt)) (by omega) (by decide) (by omega)], show A104 151 = A96 151 from (hFq102 151 (by decide)), show A96 151 = A 151 from (hFq95 151 (by decide))]; exact hpi1) (by have h := hms109; rw [hz117]; omega) (by have h := hms109; have h2 := ms_b hIA116; omega)
      · skip
        refine pe_aload_n (j := 0) (by decide +kernel) rfl ?_
        refine pe_get (j := 93) (ci := 12) (n := 5) (by decide +kernel) (by decide +kernel) (md_o hc) rfl ?_
        have hr_f_5 := mf_5 hI
        refine pe_iconstv (n := 1) (v := 1) (by decide +kernel) (by decide +kernel) ?_
        refine pz_icmp_ne (off := 116) (t := 163) (by decide +kernel) (by decide) rfl rfl kz_1 (fun h120 => ?_) (fun h120 => ?_)
        · skip
          exact k_163_0 f A x1 x2 (u3) (u4) hI (fun k n3 n4 n5 n6 n7 n8 => (hG k n3 n4 n5 n6 n7 n8)) (fun k n148 n151 => (hF k n148 n151)) (by omega) hpi0 hpi1 hpi2
        · skip
          refine pe_iload_n (j := 1) (by decide +kernel) rfl ?_
          refine pe_bipushv (n := 6) (v := 6) (by decide +kernel) (by decide +kernel) ?_
          refine pz_icmp_lt (off := 20) (t := 73) (by decide +kernel) (by decide) rfl rfl kz_6 (fun h121 => ?_) (fun h121 => ?_)
          · skip
            refine pe_aload_n (j := 0) (by decide +kernel) rfl ?_
            refine pe_get (j := 93) (ci := 12) (n := 5) (by decide +kernel) (by decide +kernel) (md_o hc) rfl ?_
            refine pe_iconstv (n := 1) (v := 1) (by decide +kernel) (by decide +kernel) ?_
            refine pz_icmp_ne (off := 32) (t := 110) (by decide +kernel) (by decide) rfl rfl kz_1 (fun h122 => by omega) (fun h122 => ?_)
            refine pe_aload_n (j := 0) (by decide +kernel) rfl ?_
            refine pe_get (j := 109) (ci := 12) (n := 6) (by decide +kernel) (by decide +kernel) (md_o hc) rfl ?_
            refine pe_iconstv (n := 0) (v := 0) (by decide +kernel) (by decide +kernel) ?_
            refine pe_bipushv (n := 8) (v := 8) (by decide +kernel) (by decide +kernel) ?_
            refine pi_S (j := 119) (mj := 199) (by decide +kernel) (by decide +kernel) rfl ?_
            show pmE pg X pg_tyl pg_cl (d + 3) 199 0 [.int (f 6), .int 0, .int 8] [] (md wc f A) _
            refine pe_iload_n (j := 0) (by decide +kernel) rfl ?_
            refine pe_iload_n (j := 1) (by decide +kernel) rfl ?_
            have lw124 := zi_lo (f 6)
            have uw124 := zi_hi (f 6)
            refine pz_icmp_lt (off := 12) (t := 14) (by decide +kernel) (by decide) rfl rfl kz_0 (fun h123 => ?_) (fun h123 => ?_)
            · skip
              refine pe_iconstv (n := 0) (v := 0) (by decide +kernel) (by decide +kernel) ?_
              refine pe_iret (by decide +kernel) rfl rfl ⟨rfl, rfl, ?_⟩
              show pmE pg X pg_tyl pg_cl (d + 4) 216 91 [.ref 147, .int x1, .int x2, u3, u4] [.int 0] (md wc f A) _
              refine pz_if_eq (off := 19) (t := 110) (by decide +kernel) (by decide) rfl kz_0 (fun h125 => ?_) (fun h125 => by omega)
              refine pe_iconstv (n := 0) (v := 0) (by decide +kernel) (by decide +kernel) ?_
              refine pe_istore_n (j := 3) (ls' := [.ref 147, .int x1, .int x2, .int 0, u4]) (by decide +kernel) (Nat.le_of_ble_eq_true rfl) rfl ?_
              refine pe_iload_n (j := 3) (by decide +kernel) rfl ?_
              refine pz_if_eq (off := 12) (t := 125) (by decide +kernel) (by decide) rfl kz_0 (fun h126 => ?_) (fun h126 => by omega)
              refine pe_aload_n (j := 0) (by decide +kernel) rfl ?_
              refine pe_iconstv (n := 0) (v := 0) (by decide +kernel) (by decide +kernel) ?_
              refine pe_bipushv (n := 8) (v := 8) (by decide +kernel) (by decide +kernel) ?_
              have hl127 := kz_0
              have hl128 := kz_8
              refine pz_callV (j := 130) (mj := 210) (by decide +kernel) (cll_V (args := [.int 8, .int 0]) (n := 2) (by decide +kernel) rfl rfl (md_o hc) (by decide +kernel) (Nat.le_of_ble_eq_true rfl) (Nat.le_of_ble_eq_true rfl)) (NM_210 hc hI (by decide +kernel) (by decide +kernel) (by omega) hpi0.2.2.2.2) (fun q129a q129b q129c q129d hqq129 => ?_)
              obtain ⟨f130, A131, rq129, eq129, hIq129, hGq129, hFq129, hX0q129, hX1q129, kq129⟩ := hqq129
              cases eq129
              refine ⟨rfl, rfl, ?_⟩
              obtain ⟨kfq129, kq129⟩ := kq129
              obtain ⟨hp132, hp133, kq129⟩ := kq129
              have htx134 := TX_trans hpi0 hp132
              show pmE pg X pg_tyl pg_cl (d + 4) 216 132 [.ref 147, .int x1, .int x2, .int 0, u4] [.int rq129] (md wc f130 A131) _
              refine pe_istore (j := 4) (ls' := [.ref 147, .int x1, .int x2, .int 0, .int rq129]) (by decide +kernel) (Nat.le_of_ble_eq_true rfl) rfl ?_
              have hms135 : msr f < msr f130 := hp133 (by omega)
              have hmb136 := ms_b hIq129
              have hx1137 : x1.toInt ≤ 8003 := by omega
              refine pe_iload_n (j := 2) (by decide +kernel) rfl ?_
              refine pe_iconstv (n := 1) (v := 1) (by decide +kernel) (by decide +kernel) ?_
              refine pe_iload (j := 4) (by decide +kernel) rfl ?_
              refine pz_shl1 (by decide +kernel) rfl (by omega) (by omega) (fun z138 hz138 => ?_)
              refine pw_or (by decide +kernel) (fun z139 => ?_)
              refine pe_istore_n (j := 2) (ls' := [.ref 147, .int x1, .int z139, .int 0, .int rq129]) (by decide +kernel) (Nat.le_of_ble_eq_true rfl) rfl ?_
              refine pe_iload_n (j := 1) (by decide +kernel) rfl ?_
              refine pe_bipushv (n := 6) (v := 6) (by decide +kernel) (by decide +kernel) ?_
              refine pz_icmp_ge (off := 13) (t := 157) (by decide +kernel) (by decide) rfl rfl kz_6 (fun h140 => by omega) (fun h140 => ?_)
              refine pe_aload_n (j := 0) (by decide +kernel) rfl ?_
              refine pe_get (j := 20) (ci := 12) (n := 11) (by decide +kernel) (by decide +kernel) (md_o hc) rfl ?_
              refine pe_iconstv (n := 2) (v := 2) (by decide +kernel) (by decide +kernel) ?_
              refine pe_iload_n (j := 1) (by decide +kernel) rfl ?_
              refine pz_add (by decide +kernel) kz_2 rfl (by omega) (by omega) (fun z141 hz141 => ?_)
              refine pe_iload (j := 4) (by decide +kernel) rfl ?_
              refine mz_st151 (by decide +kernel) hc hIq129 hz141 (by omega) (by omega) (fun A142 eA142 hIA142 => ?_)
              refine pz_iinc (j := 1) (n := 1) (by decide +kernel) rfl rfl (by decide +kernel) (by omega) (by omega) (fun z143 hz143 => ?_)
              show pmE pg X pg_tyl pg_cl (d + 4) 216 160 [.ref 147, .int z143, .int z139, .int 0, .int rq129] [] (md wc f130 A142) _
              refine pe_goto (off := (-130)) (t := 30) (by decide +kernel) (by decide) rfl ?_
              have htx144 := TX_fr (f2 := f130) (A2 := A142) htx134 (rfl) (rfl) (rfl) (by rw [show f130 9 = f130 9 from rfl]; exact Int.le_refl _) (upa_fr eA142 (by decide))
              have hts145 := TS_w hp133 (Int.le_of_eq (ms_eq (rfl) (rfl) (rfl)).symm)
              exact ih f130 A142 z143 z139 (.int 0) (.int rq129) hIA142 (fun k n3 n4 n5 n6 n7 n8 => ((hGq129 k n3 n4 n5 n6 n7 n8)).trans ((hG k n3 n4 n5 n6 n7 n8))) (fun k n148 n151 => (upa_fr eA142 n151).trans (((hFq129 k n148)).trans ((hF k n148 n151)))) (by omega) htx144 (by rw [show fr (A142 151) 0 = fr (A131 151) 0 by rw [upa_at eA142, fr_ne (i := (2 + x1.toInt)) (by omega) (by decide) (by omega)], show A131 151 = A 151 from (hFq129 151 (by decide))]; exact hpi1) (by have h := hms135; rw [hz143]; omega) (by have h := hms135; have h2 := ms_b hIA142; omega)
            · skip
              refine pe_iload_n (j := 0) (by decide +kernel) rfl ?_
              refine pe_iload_n (j := 2) (by decide +kernel) rfl ?_
              refine pz_icmp_gt (off := 7) (t := 14) (by decide +kernel) (by decide) rfl rfl kz_8 (fun h146 => ?_) (fun h146 => ?_)
              · skip
                refine pe_iconstv (n := 0) (v := 0) (by decide +kernel) (by decide +kernel) ?_
                refine pe_iret (by decide +kernel) rfl rfl ⟨rfl, rfl, ?_⟩
                show pmE pg X pg_tyl pg_cl (d + 4) 216 91 [.ref 147, .int x1, .int x2, u3, u4] [.int 0] (md wc f A) _
                refine pz_if_eq (off := 19) (t := 110) (by decide +kernel) (by decide) rfl kz_0 (fun h147 => ?_) (fun h147 => by omega)
                refine pe_iconstv (n := 0) (v := 0) (by decide +kernel) (by decide +kernel) ?_
                refine pe_istore_n (j := 3) (ls' := [.ref 147, .int x1, .int x2, .int 0, u4]) (by decide +kernel) (Nat.le_of_ble_eq_true rfl) rfl ?_
                refine pe_iload_n (j := 3) (by decide +kernel) rfl ?_
                refine pz_if_eq (off := 12) (t := 125) (by decide +kernel) (by decide) rfl kz_0 (fun h148 => ?_) (fun h148 => by omega)
                refine pe_aload_n (j := 0) (by decide +kernel) rfl ?_
                refine pe_iconstv (n := 0) (v := 0) (by decide +kernel) (by decide +kernel) ?_
                refine pe_bipushv (n := 8) (v := 8) (by decide +kernel) (by decide +kernel) ?_
                have hl149 := kz_0
                have hl150 := kz_8
                refine pz_callV (j := 130) (mj := 210) (by decide +kernel) (cll_V (args := [.int 8, .int 0]) (n := 2) (by decide +kernel) rfl rfl (md_o hc) (by decide +kernel) (Nat.le_of_ble_eq_true rfl) (Nat.le_of_ble_eq_true rfl)) (NM_210 hc hI (by decide +kernel) (by decide +kernel) (by omega) hpi0.2.2.2.2) (fun q151a q151b q151c q151d hqq151 => ?_)
                obtain ⟨f152, A153, rq151, eq151, hIq151, hGq151, hFq151, hX0q151, hX1q151, kq151⟩ := hqq151
                cases eq151
                refine ⟨rfl, rfl, ?_⟩
                obtain ⟨kfq151, kq151⟩ := kq151
                obtain ⟨hp154, hp155, kq151⟩ := kq151
                have htx156 := TX_trans hpi0 hp154
                show pmE pg X pg_tyl pg_cl (d + 4) 216 132 [.ref 147, .int x1, .int x2, .int 0, u4] [.int rq151] (md wc f152 A153) _
                refine pe_istore (j := 4) (ls' := [.ref 147, .int x1, .int x2, .int 0, .int rq151]) (by decide +kernel) (Nat.le_of_ble_eq_true rfl) rfl ?_
                have hms157 : msr f < msr f152 := hp155 (by omega)
                have hmb158 := ms_b hIq151
                have hx1159 : x1.toInt ≤ 8003 := by omega
                refine pe_iload_n (j := 2) (by decide +kernel) rfl ?_
                refine pe_iconstv (n := 1) (v := 1) (by decide +kernel) (by decide +kernel) ?_
                refine pe_iload (j := 4) (by decide +kernel) rfl ?_
                refine pz_shl1 (by decide +kernel) rfl (by omega) (by omega) (fun z160 hz160 => ?_)
                refine pw_or (by decide +kernel) (fun z161 => ?_)
                refine pe_istore_n (j := 2) (ls' := [.ref 147, .int x1, .int z161, .int 0, .int rq151]) (by decide +kernel) (Nat.le_of_ble_eq_true rfl) rfl ?_
                refine pe_iload_n (j := 1) (by decide +kernel) rfl ?_
                refine pe_bipushv (n := 6) (v := 6) (by decide +kernel) (by decide +kernel) ?_
                refine pz_icmp_ge (off := 13) (t := 157) (by decide +kernel) (by decide) rfl rfl kz_6 (fun h162 => by omega) (fun h162 => ?_)
                refine pe_aload_n (j := 0) (by decide +kernel) rfl ?_
                refine pe_get (j := 20) (ci := 12) (n := 11) (by decide +kernel) (by decide +kernel) (md_o hc) rfl ?_
                refine pe_iconstv (n := 2) (v := 2) (by decide +kernel) (by decide +kernel) ?_
                refine pe_iload_n (j := 1) (by decide +kernel) rfl ?_
                refine pz_add (by decide +kernel) kz_2 rfl (by omega) (by omega) (fun z163 hz163 => ?_)
                refine pe_iload (j := 4) (by decide +kernel) rfl ?_
                refine mz_st151 (by decide +kernel) hc hIq151 hz163 (by omega) (by omega) (fun A164 eA164 hIA164 => ?_)
                refine pz_iinc (j := 1) (n := 1) (by decide +kernel) rfl rfl (by decide +kernel) (by omega) (by omega) (fun z165 hz165 => ?_)
                show pmE pg X pg_tyl pg_cl (d + 4) 216 160 [.ref 147, .int z165, .int z161, .int 0, .int rq151] [] (md wc f152 A164) _
                refine pe_goto (off := (-130)) (t := 30) (by decide +kernel) (by decide) rfl ?_
                have htx166 := TX_fr (f2 := f152) (A2 := A164) htx156 (rfl) (rfl) (rfl) (by rw [show f152 9 = f152 9 from rfl]; exact Int.le_refl _) (upa_fr eA164 (by decide))
                have hts167 := TS_w hp155 (Int.le_of_eq (ms_eq (rfl) (rfl) (rfl)).symm)
                exact ih f152 A164 z165 z161 (.int 0) (.int rq151) hIA164 (fun k n3 n4 n5 n6 n7 n8 => ((hGq151 k n3 n4 n5 n6 n7 n8)).trans ((hG k n3 n4 n5 n6 n7 n8))) (fun k n148 n151 => (upa_fr eA164 n151).trans (((hFq151 k n148)).trans ((hF k n148 n151)))) (by omega) htx166 (by rw [show fr (A164 151) 0 = fr (A153 151) 0 by rw [upa_at eA164, fr_ne (i := (2 + x1.toInt)) (by omega) (by decide) (by omega)], show A153 151 = A 151 from (hFq151 151 (by decide))]; exact hpi1) (by have h := hms157; rw [hz165]; omega) (by have h := hms157; have h2 := ms_b hIA164; omega)
              · skip
                refine pe_iconstv (n := 1) (v := 1) (by decide +kernel) (by decide +kernel) ?_
                refine pe_goto (off := 4) (t := 15) (by decide +kernel) (by decide) rfl ?_
                refine pe_iret (by decide +kernel) rfl rfl ⟨rfl, rfl, ?_⟩
                show pmE pg X pg_tyl pg_cl (d + 4) 216 91 [.ref 147, .int x1, .int x2, u3, u4] [.int 1] (md wc f A) _
                refine pz_if_eq (off := 19) (t := 110) (by decide +kernel) (by decide) rfl kz_1 (fun h168 => by omega) (fun h168 => ?_)
                refine pe_iload_n (j := 2) (by decide +kernel) rfl ?_
                refine pe_aload_n (j := 0) (by decide +kernel) rfl ?_
                refine pe_get (j := 109) (ci := 12) (n := 6) (by decide +kernel) (by decide +kernel) (md_o hc) rfl ?_
                refine pw_shr (by decide +kernel) (fun z169 => ?_)
                refine pe_iconstv (n := 1) (v := 1) (by decide +kernel) (by decide +kernel) ?_
                refine pz_and1 (by decide +kernel) (fun z170 hz170 => ?_)
                refine pe_iconstv (n := 1) (v := 1) (by decide +kernel) (by decide +kernel) ?_
                refine pz_icmp_ne (off := 7) (t := 110) (by decide +kernel) (by decide) rfl rfl kz_1 (fun h171 => ?_) (fun h171 => ?_)
                · skip
                  refine pe_iconstv (n := 0) (v := 0) (by decide +kernel) (by decide +kernel) ?_
                  refine pe_istore_n (j := 3) (ls' := [.ref 147, .int x1, .int x2, .int 0, u4]) (by decide +kernel) (Nat.le_of_ble_eq_true rfl) rfl ?_
                  refine pe_iload_n (j := 3) (by decide +kernel) rfl ?_
                  refine pz_if_eq (off := 12) (t := 125) (by decide +kernel) (by decide) rfl kz_0 (fun h172 => ?_) (fun h172 => by omega)
                  refine pe_aload_n (j := 0) (by decide +kernel) rfl ?_
                  refine pe_iconstv (n := 0) (v := 0) (by decide +kernel) (by decide +kernel) ?_
                  refine pe_bipushv (n := 8) (v := 8) (by decide +kernel) (by decide +kernel) ?_
                  have hl173 := kz_0
                  have hl174 := kz_8
                  refine pz_callV (j := 130) (mj := 210) (by decide +kernel) (cll_V (args := [.int 8, .int 0]) (n := 2) (by decide +kernel) rfl rfl (md_o hc) (by decide +kernel) (Nat.le_of_ble_eq_true rfl) (Nat.le_of_ble_eq_true rfl)) (NM_210 hc hI (by decide +kernel) (by decide +kernel) (by omega) hpi0.2.2.2.2) (fun q175a q175b q175c q175d hqq175 => ?_)
                  obtain ⟨f176, A177, rq175, eq175, hIq175, hGq175, hFq175, hX0q175, hX1q175, kq175⟩ := hqq175
                  cases eq175
                  refine ⟨rfl, rfl, ?_⟩
                  obtain ⟨kfq175, kq175⟩ := kq175
                  obtain ⟨hp178, hp179, kq175⟩ := kq175
                  have htx180 := TX_trans hpi0 hp178
                  show pmE pg X pg_tyl pg_cl (d + 4) 216 132 [.ref 147, .int x1, .int x2, .int 0, u4] [.int rq175] (md wc f176 A177) _
                  refine pe_istore (j := 4) (ls' := [.ref 147, .int x1, .int x2, .int 0, .int rq175]) (by decide +kernel) (Nat.le_of_ble_eq_true rfl) rfl ?_
                  have hms181 : msr f < msr f176 := hp179 (by omega)
                  have hmb182 := ms_b hIq175
                  have hx1183 : x1.toInt ≤ 8003 := by omega
                  refine pe_iload_n (j := 2) (by decide +kernel) rfl ?_
                  refine pe_iconstv (n := 1) (v := 1) (by decide +kernel) (by decide +kernel) ?_
                  refine pe_iload (j := 4) (by decide +kernel) rfl ?_
                  refine pz_shl1 (by decide +kernel) rfl (by omega) (by omega) (fun z184 hz184 => ?_)
                  refine pw_or (by decide +kernel) (fun z185 => ?_)
                  refine pe_istore_n (j := 2) (ls' := [.ref 147, .int x1, .int z185, .int 0, .int rq175]) (by decide +kernel) (Nat.le_of_ble_eq_true rfl) rfl ?_
                  refine pe_iload_n (j := 1) (by decide +kernel) rfl ?_
                  refine pe_bipushv (n := 6) (v := 6) (by decide +kernel) (by decide +kernel) ?_
                  refine pz_icmp_ge (off := 13) (t := 157) (by decide +kernel) (by decide) rfl rfl kz_6 (fun h186 => by omega) (fun h186 => ?_)
                  refine pe_aload_n (j := 0) (by decide +kernel) rfl ?_
                  refine pe_get (j := 20) (ci := 12) (n := 11) (by decide +kernel) (by decide +kernel) (md_o hc) rfl ?_
                  refine pe_iconstv (n := 2) (v := 2) (by decide +kernel) (by decide +kernel) ?_
                  refine pe_iload_n (j := 1) (by decide +kernel) rfl ?_
                  refine pz_add (by decide +kernel) kz_2 rfl (by omega) (by omega) (fun z187 hz187 => ?_)
                  refine pe_iload (j := 4) (by decide +kernel) rfl ?_
                  refine mz_st151 (by decide +kernel) hc hIq175 hz187 (by omega) (by omega) (fun A188 eA188 hIA188 => ?_)
                  refine pz_iinc (j := 1) (n := 1) (by decide +kernel) rfl rfl (by decide +kernel) (by omega) (by omega) (fun z189 hz189 => ?_)
                  show pmE pg X pg_tyl pg_cl (d + 4) 216 160 [.ref 147, .int z189, .int z185, .int 0, .int rq175] [] (md wc f176 A188) _
                  refine pe_goto (off := (-130)) (t := 30) (by decide +kernel) (by decide) rfl ?_
                  have htx190 := TX_fr (f2 := f176) (A2 := A188) htx180 (rfl) (rfl) (rfl) (by rw [show f176 9 = f176 9 from rfl]; exact Int.le_refl _) (upa_fr eA188 (by decide))
                  have hts191 := TS_w hp179 (Int.le_of_eq (ms_eq (rfl) (rfl) (rfl)).symm)
                  exact ih f176 A188 z189 z185 (.int 0) (.int rq175) hIA188 (fun k n3 n4 n5 n6 n7 n8 => ((hGq175 k n3 n4 n5 n6 n7 n8)).trans ((hG k n3 n4 n5 n6 n7 n8))) (fun k n148 n151 => (upa_fr eA188 n151).trans (((hFq175 k n148)).trans ((hF k n148 n151)))) (by omega) htx190 (by rw [show fr (A188 151) 0 = fr (A177 151) 0 by rw [upa_at eA188, fr_ne (i := (2 + x1.toInt)) (by omega) (by decide) (by omega)], show A177 151 = A 151 from (hFq175 151 (by decide))]; exact hpi1) (by have h := hms181; rw [hz189]; omega) (by have h := hms181; have h2 := ms_b hIA188; omega)
                · skip
                  refine pe_iconstv (n := 1) (v := 1) (by decide +kernel) (by decide +kernel) ?_
                  refine pe_goto (off := 4) (t := 111) (by decide +kernel) (by decide) rfl ?_
                  refine pe_istore_n (j := 3) (ls' := [.ref 147, .int x1, .int x2, .int 1, u4]) (by decide +kernel) (Nat.le_of_ble_eq_true rfl) rfl ?_
                  refine pe_iload_n (j := 3) (by decide +kernel) rfl ?_
                  refine pz_if_eq (off := 12) (t := 125) (by decide +kernel) (by decide) rfl kz_1 (fun h192 => by omega) (fun h192 => ?_)
                  refine pe_aload_n (j := 0) (by decide +kernel) rfl ?_
                  refine pe_iconstv (n := 2) (v := 2) (by decide +kernel) (by decide +kernel) ?_
                  refine pe_aload_n (j := 0) (by decide +kernel) rfl ?_
                  refine pe_get (j := 90) (ci := 12) (n := 4) (by decide +kernel) (by decide +kernel) (md_o hc) rfl ?_
                  refine pz_callV (j := 123) (mj := 211) (by decide +kernel) (cll_V (args := [.int (f 4), .int 2]) (n := 2) (by decide +kernel) rfl rfl (md_o hc) (by decide +kernel) (Nat.le_of_ble_eq_true rfl) (Nat.le_of_ble_eq_true rfl)) (NM_211 hc hI (by decide +kernel) hpi0.2.2.2.2) (fun q193a q193b q193c q193d hqq193 => ?_)
                  obtain ⟨A194, eq193, hIq193, hFq193, kq193⟩ := hqq193
                  cases eq193
                  refine ⟨rfl, rfl, ?_⟩
                  obtain ⟨hp195, hp196, kq193⟩ := kq193
                  have htx197 := TX_trans hpi0 hp195
                  show pmE pg X pg_tyl pg_cl (d + 4) 216 125 [.ref 147, .int x1, .int x2, .int 1, u4] [] (md wc f A194) _
                  refine pe_aload_n (j := 0) (by decide +kernel) rfl ?_
                  refine pe_iconstv (n := 0) (v := 0) (by decide +kernel) (by decide +kernel) ?_
                  refine pe_bipushv (n := 8) (v := 8) (by decide +kernel) (by decide +kernel) ?_
                  have hl198 := kz_0
                  have hl199 := kz_8
                  refine pz_callV (j := 130) (mj := 210) (by decide +kernel) (cll_V (args := [.int 8, .int 0]) (n := 2) (by decide +kernel) rfl rfl (md_o hc) (by decide +kernel) (Nat.le_of_ble_eq_true rfl) (Nat.le_of_ble_eq_true rfl)) (NM_210 hc hIq193 (by decide +kernel) (by decide +kernel) (by omega) htx197.2.2.2.2) (fun q200a q200b q200c q200d hqq200 => ?_)
                  obtain ⟨f201, A202, rq200, eq200, hIq200, hGq200, hFq200, hX0q200, hX1q200, kq200⟩ := hqq200
                  cases eq200
                  refine ⟨rfl, rfl, ?_⟩
                  obtain ⟨kfq200, kq200⟩ := kq200
                  obtain ⟨hp203, hp204, kq200⟩ := kq200
                  have htx205 := TX_trans htx197 hp203
                  have hft206 := hp203.1 hp196
                  show pmE pg X pg_tyl pg_cl (d + 4) 216 132 [.ref 147, .int x1, .int x2, .int 1, u4] [.int rq200] (md wc f201 A202) _
                  refine pe_istore (j := 4) (ls' := [.ref 147, .int x1, .int x2, .int 1, .int rq200]) (by decide +kernel) (Nat.le_of_ble_eq_true rfl) rfl ?_
                  have hms207 : msr f < msr f201 := hp204 (by omega)
                  have hmb208 := ms_b hIq200
                  have hx1209 : x1.toInt ≤ 8003 := by omega
                  refine pe_iload_n (j := 2) (by decide +kernel) rfl ?_
                  refine pe_iconstv (n := 1) (v := 1) (by decide +kernel) (by decide +kernel) ?_
                  refine pe_iload (j := 4) (by decide +kernel) rfl ?_
                  refine pz_shl1 (by decide +kernel) rfl (by omega) (by omega) (fun z210 hz210 => ?_)
                  refine pw_or (by decide +kernel) (fun z211 => ?_)
                  refine pe_istore_n (j := 2) (ls' := [.ref 147, .int x1, .int z211, .int 1, .int rq200]) (by decide +kernel) (Nat.le_of_ble_eq_true rfl) rfl ?_
                  refine pe_iload_n (j := 1) (by decide +kernel) rfl ?_
                  refine pe_bipushv (n := 6) (v := 6) (by decide +kernel) (by decide +kernel) ?_
                  refine pz_icmp_ge (off := 13) (t := 157) (by decide +kernel) (by decide) rfl rfl kz_6 (fun h212 => by omega) (fun h212 => ?_)
                  refine pe_aload_n (j := 0) (by decide +kernel) rfl ?_
                  refine pe_get (j := 20) (ci := 12) (n := 11) (by decide +kernel) (by decide +kernel) (md_o hc) rfl ?_
                  refine pe_iconstv (n := 2) (v := 2) (by decide +kernel) (by decide +kernel) ?_
                  refine pe_iload_n (j := 1) (by decide +kernel) rfl ?_
                  refine pz_add (by decide +kernel) kz_2 rfl (by omega) (by omega) (fun z213 hz213 => ?_)
                  refine pe_iload (j := 4) (by decide +kernel) rfl ?_
                  refine mz_st151 (by decide +kernel) hc hIq200 hz213 (by omega) (by omega) (fun A214 eA214 hIA214 => ?_)
                  refine pz_iinc (j := 1) (n := 1) (by decide +kernel) rfl rfl (by decide +kernel) (by omega) (by omega) (fun z215 hz215 => ?_)
                  show pmE pg X pg_tyl pg_cl (d + 4) 216 160 [.ref 147, .int z215, .int z211, .int 1, .int rq200] [] (md wc f201 A214) _
                  refine pe_goto (off := (-130)) (t := 30) (by decide +kernel) (by decide) rfl ?_
                  have htx216 := TX_fr (f2 := f201) (A2 := A214) htx205 (rfl) (rfl) (rfl) (by rw [show f201 9 = f201 9 from rfl]; exact Int.le_refl _) (upa_fr eA214 (by decide))
                  have hts217 := TS_w hp204 (Int.le_of_eq (ms_eq (rfl) (rfl) (rfl)).symm)
                  exact ih f201 A214 z215 z211 (.int 1) (.int rq200) hIA214 (fun k n3 n4 n5 n6 n7 n8 => ((hGq200 k n3 n4 n5 n6 n7 n8)).trans ((hG k n3 n4 n5 n6 n7 n8))) (fun k n148 n151 => (upa_fr eA214 n151).trans (((hFq200 k n148)).trans (((hFq193 k n148)).trans ((hF k n148 n151))))) (by omega) htx216 (by rw [show fr (A214 151) 0 = fr (A202 151) 0 by rw [upa_at eA214, fr_ne (i := (2 + x1.toInt)) (by omega) (by decide) (by omega)], show A202 151 = A194 151 from (hFq200 151 (by decide)), show A194 151 = A 151 from (hFq193 151 (by decide))]; exact hpi1) (by have h := hms207; rw [hz215]; omega) (by have h := hms207; have h2 := ms_b hIA214; omega)
          · skip
            refine pe_aload_n (j := 0) (by decide +kernel) rfl ?_
            refine pe_get (j := 93) (ci := 12) (n := 5) (by decide +kernel) (by decide +kernel) (md_o hc) rfl ?_
            refine pe_iconstv (n := 1) (v := 1) (by decide +kernel) (by decide +kernel) ?_
            refine pz_icmp_ne (off := 12) (t := 73) (by decide +kernel) (by decide) rfl rfl kz_1 (fun h218 => by omega) (fun h218 => ?_)
            refine pe_aload_n (j := 0) (by decide +kernel) rfl ?_
            refine pe_iconstv (n := 3) (v := 3) (by decide +kernel) (by decide +kernel) ?_
            refine pe_aload_n (j := 0) (by decide +kernel) rfl ?_
            refine pe_get (j := 90) (ci := 12) (n := 4) (by decide +kernel) (by decide +kernel) (md_o hc) rfl ?_
            refine pz_callV (j := 123) (mj := 211) (by decide +kernel) (cll_V (args := [.int (f 4), .int 3]) (n := 2) (by decide +kernel) rfl rfl (md_o hc) (by decide +kernel) (Nat.le_of_ble_eq_true rfl) (Nat.le_of_ble_eq_true rfl)) (NM_211 hc hI (by decide +kernel) hpi0.2.2.2.2) (fun q219a q219b q219c q219d hqq219 => ?_)
            obtain ⟨A220, eq219, hIq219, hFq219, kq219⟩ := hqq219
            cases eq219
            refine ⟨rfl, rfl, ?_⟩
            obtain ⟨hp221, hp222, kq219⟩ := kq219
            have htx223 := TX_trans hpi0 hp221
            show pmE pg X pg_tyl pg_cl (d + 4) 216 73 [.ref 147, .int x1, .int x2, u3, u4] [] (md wc f A220) _
            refine pe_aload_n (j := 0) (by decide +kernel) rfl ?_
            refine pe_get (j := 93) (ci := 12) (n := 5) (by decide +kernel) (by decide +kernel) (md_o hc) rfl ?_
            refine pe_iconstv (n := 1) (v := 1) (by decide +kernel) (by decide +kernel) ?_
            refine pz_icmp_ne (off := 32) (t := 110) (by decide +kernel) (by decide) rfl rfl kz_1 (fun h224 => by omega) (fun h224 => ?_)
            refine pe_aload_n (j := 0) (by decide +kernel) rfl ?_
            refine pe_get (j := 109) (ci := 12) (n := 6) (by decide +kernel) (by decide +kernel) (md_o hc) rfl ?_
            refine pe_iconstv (n := 0) (v := 0) (by decide +kernel) (by decide +kernel) ?_
            refine pe_bipushv (n := 8) (v := 8) (by decide +kernel) (by decide +kernel) ?_
            refine pi_S (j := 119) (mj := 199) (by decide +kernel) (by decide +kernel) rfl ?_
            show pmE pg X pg_tyl pg_cl (d + 3) 199 0 [.int (f 6), .int 0, .int 8] [] (md wc f A220) _
            refine pe_iload_n (j := 0) (by decide +kernel) rfl ?_
            refine pe_iload_n (j := 1) (by decide +kernel) rfl ?_
            have lw226 := zi_lo (f 6)
            have uw226 := zi_hi (f 6)
            refine pz_icmp_lt (off := 12) (t := 14) (by decide +kernel) (by decide) rfl rfl kz_0 (fun h225 => ?_) (fun h225 => ?_)
            · skip
              refine pe_iconstv (n := 0) (v := 0) (by decide +kernel) (by decide +kernel) ?_
              refine pe_iret (by decide +kernel) rfl rfl ⟨rfl, rfl, ?_⟩
              show pmE pg X pg_tyl pg_cl (d + 4) 216 91 [.ref 147, .int x1, .int x2, u3, u4] [.int 0] (md wc f A220) _
              refine pz_if_eq (off := 19) (t := 110) (by decide +kernel) (by decide) rfl kz_0 (fun h227 => ?_) (fun h227 => by omega)
              refine pe_iconstv (n := 0) (v := 0) (by decide +kernel) (by decide +kernel) ?_
              refine pe_istore_n (j := 3) (ls' := [.ref 147, .int x1, .int x2, .int 0, u4]) (by decide +kernel) (Nat.le_of_ble_eq_true rfl) rfl ?_
              refine pe_iload_n (j := 3) (by decide +kernel) rfl ?_
              refine pz_if_eq (off := 12) (t := 125) (by decide +kernel) (by decide) rfl kz_0 (fun h228 => ?_) (fun h228 => by omega)
              refine pe_aload_n (j := 0) (by decide +kernel) rfl ?_
              refine pe_iconstv (n := 0) (v := 0) (by decide +kernel) (by decide +kernel) ?_
              refine pe_bipushv (n := 8) (v := 8) (by decide +kernel) (by decide +kernel) ?_
              have hl229 := kz_0
              have hl230 := kz_8
              refine pz_callV (j := 130) (mj := 210) (by decide +kernel) (cll_V (args := [.int 8, .int 0]) (n := 2) (by decide +kernel) rfl rfl (md_o hc) (by decide +kernel) (Nat.le_of_ble_eq_true rfl) (Nat.le_of_ble_eq_true rfl)) (NM_210 hc hIq219 (by decide +kernel) (by decide +kernel) (by omega) htx223.2.2.2.2) (fun q231a q231b q231c q231d hqq231 => ?_)
              obtain ⟨f232, A233, rq231, eq231, hIq231, hGq231, hFq231, hX0q231, hX1q231, kq231⟩ := hqq231
              cases eq231
              refine ⟨rfl, rfl, ?_⟩
              obtain ⟨kfq231, kq231⟩ := kq231
              obtain ⟨hp234, hp235, kq231⟩ := kq231
              have htx236 := TX_trans htx223 hp234
              have hft237 := hp234.1 hp222
              show pmE pg X pg_tyl pg_cl (d + 4) 216 132 [.ref 147, .int x1, .int x2, .int 0, u4] [.int rq231] (md wc f232 A233) _
              refine pe_istore (j := 4) (ls' := [.ref 147, .int x1, .int x2, .int 0, .int rq231]) (by decide +kernel) (Nat.le_of_ble_eq_true rfl) rfl ?_
              have hms238 : msr f < msr f232 := hp235 (by omega)
              have hmb239 := ms_b hIq231
              have hx1240 : x1.toInt ≤ 8003 := by omega
              refine pe_iload_n (j := 2) (by decide +kernel) rfl ?_
              refine pe_iconstv (n := 1) (v := 1) (by decide +kernel) (by decide +kernel) ?_
              refine pe_iload (j := 4) (by decide +kernel) rfl ?_
              refine pz_shl1 (by decide +kernel) rfl (by omega) (by omega) (fun z241 hz241 => ?_)
              refine pw_or (by decide +kernel) (fun z242 => ?_)
              refine pe_istore_n (j := 2) (ls' := [.ref 147, .int x1, .int z242, .int 0, .int rq231]) (by decide +kernel) (Nat.le_of_ble_eq_true rfl) rfl ?_
              refine pe_iload_n (j := 1) (by decide +kernel) rfl ?_
              refine pe_bipushv (n := 6) (v := 6) (by decide +kernel) (by decide +kernel) ?_
              refine pz_icmp_ge (off := 13) (t := 157) (by decide +kernel) (by decide) rfl rfl kz_6 (fun h243 => ?_) (fun h243 => by omega)
              refine pz_iinc (j := 1) (n := 1) (by decide +kernel) rfl rfl (by decide +kernel) (by omega) (by omega) (fun z244 hz244 => ?_)
              show pmE pg X pg_tyl pg_cl (d + 4) 216 160 [.ref 147, .int z244, .int z242, .int 0, .int rq231] [] (md wc f232 A233) _
              refine pe_goto (off := (-130)) (t := 30) (by decide +kernel) (by decide) rfl ?_
              exact ih f232 A233 z244 z242 (.int 0) (.int rq231) hIq231 (fun k n3 n4 n5 n6 n7 n8 => ((hGq231 k n3 n4 n5 n6 n7 n8)).trans ((hG k n3 n4 n5 n6 n7 n8))) (fun k n148 n151 => ((hFq231 k n148)).trans (((hFq219 k n148)).trans ((hF k n148 n151)))) (by omega) htx236 (by rw [show A233 151 = A220 151 from (hFq231 151 (by decide)), show A220 151 = A 151 from (hFq219 151 (by decide))]; exact hpi1) (by have h := hms238; rw [hz244]; omega) (by have h := hms238; have h2 := ms_b hIq231; omega)
            · skip
              refine pe_iload_n (j := 0) (by decide +kernel) rfl ?_
              refine pe_iload_n (j := 2) (by decide +kernel) rfl ?_
              refine pz_icmp_gt (off := 7) (t := 14) (by decide +kernel) (by decide) rfl rfl kz_8 (fun h245 => ?_) (fun h245 => ?_)
              · skip
                refine pe_iconstv (n := 0) (v := 0) (by decide +kernel) (by decide +kernel) ?_
                refine pe_iret (by decide +kernel) rfl rfl ⟨rfl, rfl, ?_⟩
                show pmE pg X pg_tyl pg_cl (d + 4) 216 91 [.ref 147, .int x1, .int x2, u3, u4] [.int 0] (md wc f A220) _
                refine pz_if_eq (off := 19) (t := 110) (by decide +kernel) (by decide) rfl kz_0 (fun h246 => ?_) (fun h246 => by omega)
                refine pe_iconstv (n := 0) (v := 0) (by decide +kernel) (by decide +kernel) ?_
                refine pe_istore_n (j := 3) (ls' := [.ref 147, .int x1, .int x2, .int 0, u4]) (by decide +kernel) (Nat.le_of_ble_eq_true rfl) rfl ?_
                refine pe_iload_n (j := 3) (by decide +kernel) rfl ?_
                refine pz_if_eq (off := 12) (t := 125) (by decide +kernel) (by decide) rfl kz_0 (fun h247 => ?_) (fun h247 => by omega)
                refine pe_aload_n (j := 0) (by decide +kernel) rfl ?_
                refine pe_iconstv (n := 0) (v := 0) (by decide +kernel) (by decide +kernel) ?_
                refine pe_bipushv (n := 8) (v := 8) (by decide +kernel) (by decide +kernel) ?_
                have hl248 := kz_0
                have hl249 := kz_8
                refine pz_callV (j := 130) (mj := 210) (by decide +kernel) (cll_V (args := [.int 8, .int 0]) (n := 2) (by decide +kernel) rfl rfl (md_o hc) (by decide +kernel) (Nat.le_of_ble_eq_true rfl) (Nat.le_of_ble_eq_true rfl)) (NM_210 hc hIq219 (by decide +kernel) (by decide +kernel) (by omega) htx223.2.2.2.2) (fun q250a q250b q250c q250d hqq250 => ?_)
                obtain ⟨f251, A252, rq250, eq250, hIq250, hGq250, hFq250, hX0q250, hX1q250, kq250⟩ := hqq250
                cases eq250
                refine ⟨rfl, rfl, ?_⟩
                obtain ⟨kfq250, kq250⟩ := kq250
                obtain ⟨hp253, hp254, kq250⟩ := kq250
                have htx255 := TX_trans htx223 hp253
                have hft256 := hp253.1 hp222
                show pmE pg X pg_tyl pg_cl (d + 4) 216 132 [.ref 147, .int x1, .int x2, .int 0, u4] [.int rq250] (md wc f251 A252) _
                refine pe_istore (j := 4) (ls' := [.ref 147, .int x1, .int x2, .int 0, .int rq250]) (by decide +kernel) (Nat.le_of_ble_eq_true rfl) rfl ?_
                have hms257 : msr f < msr f251 := hp254 (by omega)
                have hmb258 := ms_b hIq250
                have hx1259 : x1.toInt ≤ 8003 := by omega
                refine pe_iload_n (j := 2) (by decide +kernel) rfl ?_
                refine pe_iconstv (n := 1) (v := 1) (by decide +kernel) (by decide +kernel) ?_
                refine pe_iload (j := 4) (by decide +kernel) rfl ?_
                refine pz_shl1 (by decide +kernel) rfl (by omega) (by omega) (fun z260 hz260 => ?_)
                refine pw_or (by decide +kernel) (fun z261 => ?_)
                refine pe_istore_n (j := 2) (ls' := [.ref 147, .int x1, .int z261, .int 0, .int rq250]) (by decide +kernel) (Nat.le_of_ble_eq_true rfl) rfl ?_
                refine pe_iload_n (j := 1) (by decide +kernel) rfl ?_
                refine pe_bipushv (n := 6) (v := 6) (by decide +kernel) (by decide +kernel) ?_
                refine pz_icmp_ge (off := 13) (t := 157) (by decide +kernel) (by decide) rfl rfl kz_6 (fun h262 => ?_) (fun h262 => by omega)
                refine pz_iinc (j := 1) (n := 1) (by decide +kernel) rfl rfl (by decide +kernel) (by omega) (by omega) (fun z263 hz263 => ?_)
                show pmE pg X pg_tyl pg_cl (d + 4) 216 160 [.ref 147, .int z263, .int z261, .int 0, .int rq250] [] (md wc f251 A252) _
                refine pe_goto (off := (-130)) (t := 30) (by decide +kernel) (by decide) rfl ?_
                exact ih f251 A252 z263 z261 (.int 0) (.int rq250) hIq250 (fun k n3 n4 n5 n6 n7 n8 => ((hGq250 k n3 n4 n5 n6 n7 n8)).trans ((hG k n3 n4 n5 n6 n7 n8))) (fun k n148 n151 => ((hFq250 k n148)).trans (((hFq219 k n148)).trans ((hF k n148 n151)))) (by omega) htx255 (by rw [show A252 151 = A220 151 from (hFq250 151 (by decide)), show A220 151 = A 151 from (hFq219 151 (by decide))]; exact hpi1) (by have h := hms257; rw [hz263]; omega) (by have h := hms257; have h2 := ms_b hIq250; omega)
              · skip
                refine pe_iconstv (n := 1) (v := 1) (by decide +kernel) (by decide +kernel) ?_
                refine pe_goto (off := 4) (t := 15) (by decide +kernel) (by decide) rfl ?_
                refine pe_iret (by decide +kernel) rfl rfl ⟨rfl, rfl, ?_⟩
                show pmE pg X pg_tyl pg_cl (d + 4) 216 91 [.ref 147, .int x1, .int x2, u3, u4] [.int 1] (md wc f A220) _
                refine pz_if_eq (off := 19) (t := 110) (by decide +kernel) (by decide) rfl kz_1 (fun h264 => by omega) (fun h264 => ?_)
                refine pe_iload_n (j := 2) (by decide +kernel) rfl ?_
                refine pe_aload_n (j := 0) (by decide +kernel) rfl ?_
                refine pe_get (j := 109) (ci := 12) (n := 6) (by decide +kernel) (by decide +kernel) (md_o hc) rfl ?_
                refine pw_shr (by decide +kernel) (fun z265 => ?_)
                refine pe_iconstv (n := 1) (v := 1) (by decide +kernel) (by decide +kernel) ?_
                refine pz_and1 (by decide +kernel) (fun z266 hz266 => ?_)
                refine pe_iconstv (n := 1) (v := 1) (by decide +kernel) (by decide +kernel) ?_
                refine pz_icmp_ne (off := 7) (t := 110) (by decide +kernel) (by decide) rfl rfl kz_1 (fun h267 => ?_) (fun h267 => ?_)
                · skip
                  refine pe_iconstv (n := 0) (v := 0) (by decide +kernel) (by decide +kernel) ?_
                  refine pe_istore_n (j := 3) (ls' := [.ref 147, .int x1, .int x2, .int 0, u4]) (by decide +kernel) (Nat.le_of_ble_eq_true rfl) rfl ?_
                  refine pe_iload_n (j := 3) (by decide +kernel) rfl ?_
                  refine pz_if_eq (off := 12) (t := 125) (by decide +kernel) (by decide) rfl kz_0 (fun h268 => ?_) (fun h268 => by omega)
                  refine pe_aload_n (j := 0) (by decide +kernel) rfl ?_
                  refine pe_iconstv (n := 0) (v := 0) (by decide +kernel) (by decide +kernel) ?_
                  refine pe_bipushv (n := 8) (v := 8) (by decide +kernel) (by decide +kernel) ?_
                  have hl269 := kz_0
                  have hl270 := kz_8
                  refine pz_callV (j := 130) (mj := 210) (by decide +kernel) (cll_V (args := [.int 8, .int 0]) (n := 2) (by decide +kernel) rfl rfl (md_o hc) (by decide +kernel) (Nat.le_of_ble_eq_true rfl) (Nat.le_of_ble_eq_true rfl)) (NM_210 hc hIq219 (by decide +kernel) (by decide +kernel) (by omega) htx223.2.2.2.2) (fun q271a q271b q271c q271d hqq271 => ?_)
                  obtain ⟨f272, A273, rq271, eq271, hIq271, hGq271, hFq271, hX0q271, hX1q271, kq271⟩ := hqq271
                  cases eq271
                  refine ⟨rfl, rfl, ?_⟩
                  obtain ⟨kfq271, kq271⟩ := kq271
                  obtain ⟨hp274, hp275, kq271⟩ := kq271
                  have htx276 := TX_trans htx223 hp274
                  have hft277 := hp274.1 hp222
                  show pmE pg X pg_tyl pg_cl (d + 4) 216 132 [.ref 147, .int x1, .int x2, .int 0, u4] [.int rq271] (md wc f272 A273) _
                  refine pe_istore (j := 4) (ls' := [.ref 147, .int x1, .int x2, .int 0, .int rq271]) (by decide +kernel) (Nat.le_of_ble_eq_true rfl) rfl ?_
                  have hms278 : msr f < msr f272 := hp275 (by omega)
                  have hmb279 := ms_b hIq271
                  have hx1280 : x1.toInt ≤ 8003 := by omega
                  refine pe_iload_n (j := 2) (by decide +kernel) rfl ?_
                  refine pe_iconstv (n := 1) (v := 1) (by decide +kernel) (by decide +kernel) ?_
                  refine pe_iload (j := 4) (by decide +kernel) rfl ?_
                  refine pz_shl1 (by decide +kernel) rfl (by omega) (by omega) (fun z281 hz281 => ?_)
                  refine pw_or (by decide +kernel) (fun z282 => ?_)
                  refine pe_istore_n (j := 2) (ls' := [.ref 147, .int x1, .int z282, .int 0, .int rq271]) (by decide +kernel) (Nat.le_of_ble_eq_true rfl) rfl ?_
                  refine pe_iload_n (j := 1) (by decide +kernel) rfl ?_
                  refine pe_bipushv (n := 6) (v := 6) (by decide +kernel) (by decide +kernel) ?_
                  refine pz_icmp_ge (off := 13) (t := 157) (by decide +kernel) (by decide) rfl rfl kz_6 (fun h283 => ?_) (fun h283 => by omega)
                  refine pz_iinc (j := 1) (n := 1) (by decide +kernel) rfl rfl (by decide +kernel) (by omega) (by omega) (fun z284 hz284 => ?_)
                  show pmE pg X pg_tyl pg_cl (d + 4) 216 160 [.ref 147, .int z284, .int z282, .int 0, .int rq271] [] (md wc f272 A273) _
                  refine pe_goto (off := (-130)) (t := 30) (by decide +kernel) (by decide) rfl ?_
                  exact ih f272 A273 z284 z282 (.int 0) (.int rq271) hIq271 (fun k n3 n4 n5 n6 n7 n8 => ((hGq271 k n3 n4 n5 n6 n7 n8)).trans ((hG k n3 n4 n5 n6 n7 n8))) (fun k n148 n151 => ((hFq271 k n148)).trans (((hFq219 k n148)).trans ((hF k n148 n151)))) (by omega) htx276 (by rw [show A273 151 = A220 151 from (hFq271 151 (by decide)), show A220 151 = A 151 from (hFq219 151 (by decide))]; exact hpi1) (by have h := hms278; rw [hz284]; omega) (by have h := hms278; have h2 := ms_b hIq271; omega)
                · skip
                  refine pe_iconstv (n := 1) (v := 1) (by decide +kernel) (by decide +kernel) ?_
                  refine pe_goto (off := 4) (t := 111) (by decide +kernel) (by decide) rfl ?_
                  refine pe_istore_n (j := 3) (ls' := [.ref 147, .int x1, .int x2, .int 1, u4]) (by decide +kernel) (Nat.le_of_ble_eq_true rfl) rfl ?_
                  refine pe_iload_n (j := 3) (by decide +kernel) rfl ?_
                  refine pz_if_eq (off := 12) (t := 125) (by decide +kernel) (by decide) rfl kz_1 (fun h285 => by omega) (fun h285 => ?_)
                  refine pe_aload_n (j := 0) (by decide +kernel) rfl ?_
                  refine pe_iconstv (n := 2) (v := 2) (by decide +kernel) (by decide +kernel) ?_
                  refine pe_aload_n (j := 0) (by decide +kernel) rfl ?_
                  refine pe_get (j := 90) (ci := 12) (n := 4) (by decide +kernel) (by decide +kernel) (md_o hc) rfl ?_
                  refine pz_callV (j := 123) (mj := 211) (by decide +kernel) (cll_V (args := [.int (f 4), .int 2]) (n := 2) (by decide +kernel) rfl rfl (md_o hc) (by decide +kernel) (Nat.le_of_ble_eq_true rfl) (Nat.le_of_ble_eq_true rfl)) (NM_211 hc hIq219 (by decide +kernel) htx223.2.2.2.2) (fun q286a q286b q286c q286d hqq286 => ?_)
                  obtain ⟨A287, eq286, hIq286, hFq286, kq286⟩ := hqq286
                  cases eq286
                  refine ⟨rfl, rfl, ?_⟩
                  obtain ⟨hp288, hp289, kq286⟩ := kq286
                  have htx290 := TX_trans htx223 hp288
                  have hft291 := hp288.1 hp222
                  show pmE pg X pg_tyl pg_cl (d + 4) 216 125 [.ref 147, .int x1, .int x2, .int 1, u4] [] (md wc f A287) _
                  refine pe_aload_n (j := 0) (by decide +kernel) rfl ?_
                  refine pe_iconstv (n := 0) (v := 0) (by decide +kernel) (by decide +kernel) ?_
                  refine pe_bipushv (n := 8) (v := 8) (by decide +kernel) (by decide +kernel) ?_
                  have hl292 := kz_0
                  have hl293 := kz_8
                  refine pz_callV (j := 130) (mj := 210) (by decide +kernel) (cll_V (args := [.int 8, .int 0]) (n := 2) (by decide +kernel) rfl rfl (md_o hc) (by decide +kernel) (Nat.le_of_ble_eq_true rfl) (Nat.le_of_ble_eq_true rfl)) (NM_210 hc hIq286 (by decide +kernel) (by decide +kernel) (by omega) htx290.2.2.2.2) (fun q294a q294b q294c q294d hqq294 => ?_)
                  obtain ⟨f295, A296, rq294, eq294, hIq294, hGq294, hFq294, hX0q294, hX1q294, kq294⟩ := hqq294
                  cases eq294
                  refine ⟨rfl, rfl, ?_⟩
                  obtain ⟨kfq294, kq294⟩ := kq294
                  obtain ⟨hp297, hp298, kq294⟩ := kq294
                  have htx299 := TX_trans htx290 hp297
                  have hft300 := hp297.1 hp289
                  show pmE pg X pg_tyl pg_cl (d + 4) 216 132 [.ref 147, .int x1, .int x2, .int 1, u4] [.int rq294] (md wc f295 A296) _
                  refine pe_istore (j := 4) (ls' := [.ref 147, .int x1, .int x2, .int 1, .int rq294]) (by decide +kernel) (Nat.le_of_ble_eq_true rfl) rfl ?_
                  have hms301 : msr f < msr f295 := hp298 (by omega)
                  have hmb302 := ms_b hIq294
                  have hx1303 : x1.toInt ≤ 8003 := by omega
                  refine pe_iload_n (j := 2) (by decide +kernel) rfl ?_
                  refine pe_iconstv (n := 1) (v := 1) (by decide +kernel) (by decide +kernel) ?_
                  refine pe_iload (j := 4) (by decide +kernel) rfl ?_
                  refine pz_shl1 (by decide +kernel) rfl (by omega) (by omega) (fun z304 hz304 => ?_)
                  refine pw_or (by decide +kernel) (fun z305 => ?_)
                  refine pe_istore_n (j := 2) (ls' := [.ref 147, .int x1, .int z305, .int 1, .int rq294]) (by decide +kernel) (Nat.le_of_ble_eq_true rfl) rfl ?_
                  refine pe_iload_n (j := 1) (by decide +kernel) rfl ?_
                  refine pe_bipushv (n := 6) (v := 6) (by decide +kernel) (by decide +kernel) ?_
                  refine pz_icmp_ge (off := 13) (t := 157) (by decide +kernel) (by decide) rfl rfl kz_6 (fun h306 => ?_) (fun h306 => by omega)
                  refine pz_iinc (j := 1) (n := 1) (by decide +kernel) rfl rfl (by decide +kernel) (by omega) (by omega) (fun z307 hz307 => ?_)
                  show pmE pg X pg_tyl pg_cl (d + 4) 216 160 [.ref 147, .int z307, .int z305, .int 1, .int rq294] [] (md wc f295 A296) _
                  refine pe_goto (off := (-130)) (t := 30) (by decide +kernel) (by decide) rfl ?_
                  exact ih f295 A296 z307 z305 (.int 1) (.int rq294) hIq294 (fun k n3 n4 n5 n6 n7 n8 => ((hGq294 k n3 n4 n5 n6 n7 n8)).trans ((hG k n3 n4 n5 n6 n7 n8))) (fun k n148 n151 => ((hFq294 k n148)).trans (((hFq286 k n148)).trans (((hFq219 k n148)).trans ((hF k n148 n151))))) (by omega) htx299 (by rw [show A296 151 = A287 151 from (hFq294 151 (by decide)), show A287 151 = A220 151 from (hFq286 151 (by decide)), show A220 151 = A 151 from (hFq219 151 (by decide))]; exact hpi1) (by have h := hms301; rw [hz307]; omega) (by have h := hms301; have h2 := ms_b hIq294; omega)
set_option maxRecDepth 100000 in
set_option maxHeartbeats 8000000 in
theorem NM_216 {X : pm_X} {d : Nat} {wc : pm_W} {f : Nat → Int32} {A : Nat → List Int32} (hc : wc.length = 147) (hI : MI f A) (hpp0 : JJ f A) : pmE pg X pg_tyl pg_cl (d + 4) 216 0 (pm_ent (pm_max pg 216) [.ref 147]) [] (md wc f A) (fun q => ∃ (f' : Nat → Int32) (A' : Nat → List Int32), q = (none, md wc f' A', 0, 0) ∧ MI f' A' ∧ (∀ k : Nat, k ≠ 3 → k ≠ 4 → k ≠ 5 → k ≠ 6 → k ≠ 7 → k ≠ 8 → f' k = f k) ∧ (∀ k : Nat, k ≠ 148 → k ≠ 151 → A' k = A k) ∧ ((TX f f' A A' ∧ (1 ≤ fr (A' 151) 0 ∧ fr (A' 151) 0 ≤ 99) ∧ True))) := by
  show pmE pg X pg_tyl pg_cl (d + 4) 216 0 [.ref 147, pm_dead, pm_dead, pm_dead, pm_dead] [] (md wc f A) _
  refine pe_aload_n (j := 0) (by decide +kernel) rfl ?_
  refine pe_get (j := 20) (ci := 12) (n := 11) (by decide +kernel) (by decide +kernel) (md_o hc) rfl ?_
  refine pe_iconstv (n := 0) (v := 0) (by decide +kernel) (by decide +kernel) ?_
  refine pe_aload_n (j := 0) (by decide +kernel) rfl ?_
  refine pe_iconstv (n := 1) (v := 1) (by decide +kernel) (by decide +kernel) ?_
  refine pe_bipushv (n := 99) (v := 99) (by decide +kernel) (by decide +kernel) ?_
  have hl1 := kz_1
  have hl2 := kz_99
  have htx3 : TX f f A A := TX_refl hpp0
  refine pz_callV (j := 130) (mj := 210) (by decide +kernel) (cll_V (args := [.int 99, .int 1]) (n := 2) (by decide +kernel) rfl rfl (md_o hc) (by decide +kernel) (Nat.le_of_ble_eq_true rfl) (Nat.le_of_ble_eq_true rfl)) (NM_210 hc hI (by decide +kernel) (by decide +kernel) (by omega) htx3.2.2.2.2) (fun q4a q4b q4c q4d hqq4 => ?_)
  obtain ⟨f5, A6, rq4, eq4, hIq4, hGq4, hFq4, hX0q4, hX1q4, kq4⟩ := hqq4
  cases eq4
  refine ⟨rfl, rfl, ?_⟩
  obtain ⟨kfq4, kq4⟩ := kq4
  obtain ⟨hp7, hp8, kq4⟩ := kq4
  have htx9 := TX_trans htx3 hp7
  show pmE pg X pg_tyl pg_cl (d + 4) 216 12 [.ref 147, pm_dead, pm_dead, pm_dead, pm_dead] [.int rq4, .int 0, .ref 151] (md wc f5 A6) _
  refine mz_st151 (by decide +kernel) hc hIq4 kz_0 (by omega) (by omega) (fun A10 eA10 hIA10 => ?_)
  refine pe_aload_n (j := 0) (by decide +kernel) rfl ?_
  refine pe_get (j := 20) (ci := 12) (n := 11) (by decide +kernel) (by decide +kernel) (md_o hc) rfl ?_
  refine pe_iconstv (n := 1) (v := 1) (by decide +kernel) (by decide +kernel) ?_
  refine pe_aload_n (j := 0) (by decide +kernel) rfl ?_
  refine pe_iconstv (n := 0) (v := 0) (by decide +kernel) (by decide +kernel) ?_
  refine pe_bipushv (n := 99) (v := 99) (by decide +kernel) (by decide +kernel) ?_
  have hl11 := kz_0
  have hl12 := kz_99
  have htx13 := TX_fr (f2 := f5) (A2 := A10) htx9 (rfl) (rfl) (rfl) (by rw [show f5 9 = f5 9 from rfl]; exact Int.le_refl _) (upa_fr eA10 (by decide))
  have hts14 := TS_w hp8 (Int.le_of_eq (ms_eq (rfl) (rfl) (rfl)).symm)
  refine pz_callV (j := 130) (mj := 210) (by decide +kernel) (cll_V (args := [.int 99, .int 0]) (n := 2) (by decide +kernel) rfl rfl (md_o hc) (by decide +kernel) (Nat.le_of_ble_eq_true rfl) (Nat.le_of_ble_eq_true rfl)) (NM_210 hc hIA10 (by decide +kernel) (by decide +kernel) (by omega) htx13.2.2.2.2) (fun q15a q15b q15c q15d hqq15 => ?_)
  obtain ⟨f16, A17, rq15, eq15, hIq15, hGq15, hFq15, hX0q15, hX1q15, kq15⟩ := hqq15
  cases eq15
  refine ⟨rfl, rfl, ?_⟩
  obtain ⟨kfq15, kq15⟩ := kq15
  obtain ⟨hp18, hp19, kq15⟩ := kq15
  have htx20 := TX_trans htx13 hp18
  have hts21 := TS_w hts14 hp18.2.2.1
  show pmE pg X pg_tyl pg_cl (d + 4) 216 25 [.ref 147, pm_dead, pm_dead, pm_dead, pm_dead] [.int rq15, .int 1, .ref 151] (md wc f16 A17) _
  refine mz_st151 (by decide +kernel) hc hIq15 kz_1 (by omega) (by omega) (fun A22 eA22 hIA22 => ?_)
  refine pe_iconstv (n := 0) (v := 0) (by decide +kernel) (by decide +kernel) ?_
  refine pe_istore_n (j := 1) (ls' := [.ref 147, .int 0, pm_dead, pm_dead, pm_dead]) (by decide +kernel) (Nat.le_of_ble_eq_true rfl) rfl ?_
  have htx23 := TX_fr (f2 := f16) (A2 := A22) htx20 (rfl) (rfl) (rfl) (by rw [show f16 9 = f16 9 from rfl]; exact Int.le_refl _) (upa_fr eA22 (by decide))
  have hts24 := TS_w hts21 (Int.le_of_eq (ms_eq (rfl) (rfl) (rfl)).symm)
  refine pe_iconstv (n := 0) (v := 0) (by decide +kernel) (by decide +kernel) ?_
  refine pe_istore_n (j := 2) (ls' := [.ref 147, .int 0, .int 0, pm_dead, pm_dead]) (by decide +kernel) (Nat.le_of_ble_eq_true rfl) rfl ?_
  refine NL_216_30 hc (fun f25 A26 y27 y28 u29 u30 hIy31 hGf25 hFA26 gy27 hp32 hp33 hp34 => ?_) ((8000 - msr f16).toNat + 1) f16 A22 0 0 (pm_dead) (pm_dead) hIA22 (fun k _ _ _ _ _ _ => rfl) (fun k _ _ => rfl) (by decide +kernel) (TX_refl htx23.2.2.2.2) rfl (by have h := ms_b hIA22; rw [kz_0]; omega) (Nat.lt_succ_self _)
  have htx35 := TX_trans htx23 hp32
  have he036 : fr (A22 151) 0 = rq4.toInt := (congrArg Int32.toInt (show (A22 151).getD 0 0 = rq4 from (el_ne eA22 (by omega)).trans ((el_fr ((hFq15 151 (by decide)))).trans (el_eq eA10 (by rw [(mlen_151 hIq4)]; decide))))).trans rfl
  have he0x := hp33
  rw [he036] at he0x
  exact pe_vret (by decide +kernel) rfl ⟨f25, A26, rfl, hIy31, (fun k n3 n4 n5 n6 n7 n8 => ((hGf25 k n3 n4 n5 n6 n7 n8)).trans (((hGq15 k n3 n4 n5 n6 n7 n8)).trans ((hGq4 k n3 n4 n5 n6 n7 n8)))), (fun k n148 n151 => ((hFA26 k n148 n151)).trans ((upa_fr eA22 n151).trans (((hFq15 k n148)).trans ((upa_fr eA10 n151).trans ((hFq4 k n148)))))), ⟨htx35, (by rw [he0x]; omega), trivial⟩⟩
