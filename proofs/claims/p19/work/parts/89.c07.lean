set_option maxRecDepth 100000 in
set_option maxHeartbeats 8000000 in
theorem CL_30_1_36 {X : pm_X} {d : Nat} {wr : pm_W} {Q : pm_R → Prop} {f : Nat → Int32} {A : Nat → List Int32} {R : Nat → Value} (hX : XO X) (hI : CI f A R) (hR4 : R 4 = .ref 4) (k_63_0 : ∀ (y4 : Int32), (6 ≤ y4.toInt ∧ y4.toInt ≤ 6) → pmE pg X pg_tyl pg_cl (d + 6) 30 63 [.ref 23, .int 1, .int 0, .int 6, .int y4] [] (cd f A R wr) Q) (kr_v : ∀ (r : Int32), (0 ≤ r.toInt ∧ r.toInt ≤ 5) → Q (some (.int r), cd f A R wr, 0, 0)) : ∀ (m : Nat) (x4 : Int32), (0 ≤ x4.toInt ∧ x4.toInt ≤ 6) → 6 - x4.toInt < (m : Int) → pmE pg X pg_tyl pg_cl (d + 6) 30 36 [.ref 23, .int 1, .int 0, .int 6, .int x4] [] (cd f A R wr) Q := by
  intro m
  induction m with
  | zero =>
    intro x4 gx4 hm
    exfalso
    have l0 := zi_lo x4
    have u0 := zi_hi x4
    omega
  | succ m ih =>
    intro x4 gx4 hm
    refine pe_iload (j := 4) (by decide +kernel) rfl ?_
    refine pe_iload_n (j := 3) (by decide +kernel) rfl ?_
    refine pz_icmp_ge (off := 24) (t := 63) (by decide +kernel) (by decide) rfl rfl kz_6 (fun h1 => ?_) (fun h1 => ?_)
    · skip
      exact k_63_0 x4 (by omega)
    · skip
      refine pe_aload_n (j := 0) (by decide +kernel) rfl ?_
      refine pe_iload (j := 4) (by decide +kernel) rfl ?_
      refine pi_S (j := 147) (mj := 31) (by decide +kernel) (by decide +kernel) rfl ?_
      show pmE pg X pg_tyl pg_cl (d + 5) 31 0 [.int x4] [] (cd f A R wr) _
      refine pe_iload_n (j := 0) (by decide +kernel) rfl ?_
      by_cases h2 : x4.toInt = 0
      · skip
        refine pe_tableIn (df := 99) (lo := 0) (hi := 11) (off := 63) (offs := #[63, 66, 69, 72, 75, 78, 81, 84, 87, 90, 93, 96]) (t := 64) (by decide +kernel) (by omega) (by rw [h2]; rfl) (by decide) rfl ?_
        refine pe_ldcS (j := 155) (q := 20) (by decide +kernel) (by decide +kernel) (by decide +kernel) ?_
        refine pe_xret (by decide +kernel) rfl ⟨rfl, rfl, ?_⟩
        show pmE pg X pg_tyl pg_cl (d + 6) 30 48 [.ref 23, .int 1, .int 0, .int 6, .int x4] [.retAddr 20, .ref 23] (cd f A R wr) _
        refine pz_callV (j := 151) (mj := 32) (by decide +kernel) (cll_V (args := [.retAddr 20]) (n := 1) (by decide +kernel) rfl rfl cd_o23 (by decide +kernel) (Nat.le_of_ble_eq_true rfl) (Nat.le_of_ble_eq_true rfl)) (CM_32 hX hI (hR4)) (fun q3a q3b q3c q3d hqq3 => ?_)
        obtain ⟨rq3, eq3, kq3⟩ := hqq3
        cases eq3
        refine ⟨rfl, rfl, ?_⟩
        rcases kq3 with kq3 | kq3
        · skip
          obtain ⟨erq3, kq3⟩ := kq3
          subst erq3
          show pmE pg X pg_tyl pg_cl (d + 6) 30 51 [.ref 23, .int 1, .int 0, .int 6, .int x4] [.int 0] (cd f A R wr) _
          refine pz_if_eq (off := 6) (t := 57) (by decide +kernel) (by decide) rfl kz_0 (fun h4 => ?_) (fun h4 => by omega)
          refine pz_iinc (j := 4) (n := 1) (by decide +kernel) rfl rfl (by decide +kernel) (by omega) (by omega) (fun z5 hz5 => ?_)
          show pmE pg X pg_tyl pg_cl (d + 6) 30 60 [.ref 23, .int 1, .int 0, .int 6, .int z5] [] (cd f A R wr) _
          refine pe_goto (off := (-24)) (t := 36) (by decide +kernel) (by decide) rfl ?_
          exact ih z5 (by omega) (by omega)
        · skip
          obtain ⟨erq3, kq3⟩ := kq3
          subst erq3
          show pmE pg X pg_tyl pg_cl (d + 6) 30 51 [.ref 23, .int 1, .int 0, .int 6, .int x4] [.int 1] (cd f A R wr) _
          refine pz_if_eq (off := 6) (t := 57) (by decide +kernel) (by decide) rfl kz_1 (fun h6 => by omega) (fun h6 => ?_)
          refine pe_iload (j := 4) (by decide +kernel) rfl ?_
          exact pe_iret (by decide +kernel) rfl rfl (kr_v x4 (by omega))
      · skip
        by_cases h7 : x4.toInt = 1
        · skip
          refine pe_tableIn (df := 99) (lo := 0) (hi := 11) (off := 66) (offs := #[63, 66, 69, 72, 75, 78, 81, 84, 87, 90, 93, 96]) (t := 67) (by decide +kernel) (by omega) (by rw [h7]; rfl) (by decide) rfl ?_
          refine pe_ldcS (j := 157) (q := 22) (by decide +kernel) (by decide +kernel) (by decide +kernel) ?_
          refine pe_xret (by decide +kernel) rfl ⟨rfl, rfl, ?_⟩
          show pmE pg X pg_tyl pg_cl (d + 6) 30 48 [.ref 23, .int 1, .int 0, .int 6, .int x4] [.retAddr 22, .ref 23] (cd f A R wr) _
          refine pz_callV (j := 151) (mj := 32) (by decide +kernel) (cll_V (args := [.retAddr 22]) (n := 1) (by decide +kernel) rfl rfl cd_o23 (by decide +kernel) (Nat.le_of_ble_eq_true rfl) (Nat.le_of_ble_eq_true rfl)) (CM_32_1 hX hI (hR4)) (fun q8a q8b q8c q8d hqq8 => ?_)
          obtain ⟨rq8, eq8, kq8⟩ := hqq8
          cases eq8
          refine ⟨rfl, rfl, ?_⟩
          rcases kq8 with kq8 | kq8
          · skip
            obtain ⟨erq8, kq8⟩ := kq8
            subst erq8
            show pmE pg X pg_tyl pg_cl (d + 6) 30 51 [.ref 23, .int 1, .int 0, .int 6, .int x4] [.int 0] (cd f A R wr) _
            refine pz_if_eq (off := 6) (t := 57) (by decide +kernel) (by decide) rfl kz_0 (fun h9 => ?_) (fun h9 => by omega)
            refine pz_iinc (j := 4) (n := 1) (by decide +kernel) rfl rfl (by decide +kernel) (by omega) (by omega) (fun z10 hz10 => ?_)
            show pmE pg X pg_tyl pg_cl (d + 6) 30 60 [.ref 23, .int 1, .int 0, .int 6, .int z10] [] (cd f A R wr) _
            refine pe_goto (off := (-24)) (t := 36) (by decide +kernel) (by decide) rfl ?_
            exact ih z10 (by omega) (by omega)
          · skip
            obtain ⟨erq8, kq8⟩ := kq8
            subst erq8
            show pmE pg X pg_tyl pg_cl (d + 6) 30 51 [.ref 23, .int 1, .int 0, .int 6, .int x4] [.int 1] (cd f A R wr) _
            refine pz_if_eq (off := 6) (t := 57) (by decide +kernel) (by decide) rfl kz_1 (fun h11 => by omega) (fun h11 => ?_)
            refine pe_iload (j := 4) (by decide +kernel) rfl ?_
            exact pe_iret (by decide +kernel) rfl rfl (kr_v x4 (by omega))
        · skip
          by_cases h12 : x4.toInt = 2
          · skip
            refine pe_tableIn (df := 99) (lo := 0) (hi := 11) (off := 69) (offs := #[63, 66, 69, 72, 75, 78, 81, 84, 87, 90, 93, 96]) (t := 70) (by decide +kernel) (by omega) (by rw [h12]; rfl) (by decide) rfl ?_
            refine pe_ldcS (j := 159) (q := 24) (by decide +kernel) (by decide +kernel) (by decide +kernel) ?_
            refine pe_xret (by decide +kernel) rfl ⟨rfl, rfl, ?_⟩
            show pmE pg X pg_tyl pg_cl (d + 6) 30 48 [.ref 23, .int 1, .int 0, .int 6, .int x4] [.retAddr 24, .ref 23] (cd f A R wr) _
            refine pz_callV (j := 151) (mj := 32) (by decide +kernel) (cll_V (args := [.retAddr 24]) (n := 1) (by decide +kernel) rfl rfl cd_o23 (by decide +kernel) (Nat.le_of_ble_eq_true rfl) (Nat.le_of_ble_eq_true rfl)) (CM_32_2 hX hI (hR4)) (fun q13a q13b q13c q13d hqq13 => ?_)
            obtain ⟨rq13, eq13, kq13⟩ := hqq13
            cases eq13
            refine ⟨rfl, rfl, ?_⟩
            rcases kq13 with kq13 | kq13
            · skip
              obtain ⟨erq13, kq13⟩ := kq13
              subst erq13
              show pmE pg X pg_tyl pg_cl (d + 6) 30 51 [.ref 23, .int 1, .int 0, .int 6, .int x4] [.int 0] (cd f A R wr) _
              refine pz_if_eq (off := 6) (t := 57) (by decide +kernel) (by decide) rfl kz_0 (fun h14 => ?_) (fun h14 => by omega)
              refine pz_iinc (j := 4) (n := 1) (by decide +kernel) rfl rfl (by decide +kernel) (by omega) (by omega) (fun z15 hz15 => ?_)
              show pmE pg X pg_tyl pg_cl (d + 6) 30 60 [.ref 23, .int 1, .int 0, .int 6, .int z15] [] (cd f A R wr) _
              refine pe_goto (off := (-24)) (t := 36) (by decide +kernel) (by decide) rfl ?_
              exact ih z15 (by omega) (by omega)
            · skip
              obtain ⟨erq13, kq13⟩ := kq13
              subst erq13
              show pmE pg X pg_tyl pg_cl (d + 6) 30 51 [.ref 23, .int 1, .int 0, .int 6, .int x4] [.int 1] (cd f A R wr) _
              refine pz_if_eq (off := 6) (t := 57) (by decide +kernel) (by decide) rfl kz_1 (fun h16 => by omega) (fun h16 => ?_)
              refine pe_iload (j := 4) (by decide +kernel) rfl ?_
              exact pe_iret (by decide +kernel) rfl rfl (kr_v x4 (by omega))
          · skip
            by_cases h17 : x4.toInt = 3
            · skip
              refine pe_tableIn (df := 99) (lo := 0) (hi := 11) (off := 72) (offs := #[63, 66, 69, 72, 75, 78, 81, 84, 87, 90, 93, 96]) (t := 73) (by decide +kernel) (by omega) (by rw [h17]; rfl) (by decide) rfl ?_
              refine pe_ldcS (j := 161) (q := 26) (by decide +kernel) (by decide +kernel) (by decide +kernel) ?_
              refine pe_xret (by decide +kernel) rfl ⟨rfl, rfl, ?_⟩
              show pmE pg X pg_tyl pg_cl (d + 6) 30 48 [.ref 23, .int 1, .int 0, .int 6, .int x4] [.retAddr 26, .ref 23] (cd f A R wr) _
              refine pz_callV (j := 151) (mj := 32) (by decide +kernel) (cll_V (args := [.retAddr 26]) (n := 1) (by decide +kernel) rfl rfl cd_o23 (by decide +kernel) (Nat.le_of_ble_eq_true rfl) (Nat.le_of_ble_eq_true rfl)) (CM_32_3 hX hI (hR4)) (fun q18a q18b q18c q18d hqq18 => ?_)
              obtain ⟨rq18, eq18, kq18⟩ := hqq18
              cases eq18
              refine ⟨rfl, rfl, ?_⟩
              rcases kq18 with kq18 | kq18
              · skip
                obtain ⟨erq18, kq18⟩ := kq18
                subst erq18
                show pmE pg X pg_tyl pg_cl (d + 6) 30 51 [.ref 23, .int 1, .int 0, .int 6, .int x4] [.int 0] (cd f A R wr) _
                refine pz_if_eq (off := 6) (t := 57) (by decide +kernel) (by decide) rfl kz_0 (fun h19 => ?_) (fun h19 => by omega)
                refine pz_iinc (j := 4) (n := 1) (by decide +kernel) rfl rfl (by decide +kernel) (by omega) (by omega) (fun z20 hz20 => ?_)
                show pmE pg X pg_tyl pg_cl (d + 6) 30 60 [.ref 23, .int 1, .int 0, .int 6, .int z20] [] (cd f A R wr) _
                refine pe_goto (off := (-24)) (t := 36) (by decide +kernel) (by decide) rfl ?_
                exact ih z20 (by omega) (by omega)
              · skip
                obtain ⟨erq18, kq18⟩ := kq18
                subst erq18
                show pmE pg X pg_tyl pg_cl (d + 6) 30 51 [.ref 23, .int 1, .int 0, .int 6, .int x4] [.int 1] (cd f A R wr) _
                refine pz_if_eq (off := 6) (t := 57) (by decide +kernel) (by decide) rfl kz_1 (fun h21 => by omega) (fun h21 => ?_)
                refine pe_iload (j := 4) (by decide +kernel) rfl ?_
                exact pe_iret (by decide +kernel) rfl rfl (kr_v x4 (by omega))
            · skip
              by_cases h22 : x4.toInt = 4
              · skip
                refine pe_tableIn (df := 99) (lo := 0) (hi := 11) (off := 75) (offs := #[63, 66, 69, 72, 75, 78, 81, 84, 87, 90, 93, 96]) (t := 76) (by decide +kernel) (by omega) (by rw [h22]; rfl) (by decide) rfl ?_
                refine pe_ldcS (j := 163) (q := 28) (by decide +kernel) (by decide +kernel) (by decide +kernel) ?_
                refine pe_xret (by decide +kernel) rfl ⟨rfl, rfl, ?_⟩
                show pmE pg X pg_tyl pg_cl (d + 6) 30 48 [.ref 23, .int 1, .int 0, .int 6, .int x4] [.retAddr 28, .ref 23] (cd f A R wr) _
                refine pz_callV (j := 151) (mj := 32) (by decide +kernel) (cll_V (args := [.retAddr 28]) (n := 1) (by decide +kernel) rfl rfl cd_o23 (by decide +kernel) (Nat.le_of_ble_eq_true rfl) (Nat.le_of_ble_eq_true rfl)) (CM_32_4 hX hI (hR4)) (fun q23a q23b q23c q23d hqq23 => ?_)
                obtain ⟨rq23, eq23, kq23⟩ := hqq23
                cases eq23
                refine ⟨rfl, rfl, ?_⟩
                rcases kq23 with kq23 | kq23
                · skip
                  obtain ⟨erq23, kq23⟩ := kq23
                  subst erq23
                  show pmE pg X pg_tyl pg_cl (d + 6) 30 51 [.ref 23, .int 1, .int 0, .int 6, .int x4] [.int 0] (cd f A R wr) _
                  refine pz_if_eq (off := 6) (t := 57) (by decide +kernel) (by decide) rfl kz_0 (fun h24 => ?_) (fun h24 => by omega)
                  refine pz_iinc (j := 4) (n := 1) (by decide +kernel) rfl rfl (by decide +kernel) (by omega) (by omega) (fun z25 hz25 => ?_)
                  show pmE pg X pg_tyl pg_cl (d + 6) 30 60 [.ref 23, .int 1, .int 0, .int 6, .int z25] [] (cd f A R wr) _
                  refine pe_goto (off := (-24)) (t := 36) (by decide +kernel) (by decide) rfl ?_
                  exact ih z25 (by omega) (by omega)
                · skip
                  obtain ⟨erq23, kq23⟩ := kq23
                  subst erq23
                  show pmE pg X pg_tyl pg_cl (d + 6) 30 51 [.ref 23, .int 1, .int 0, .int 6, .int x4] [.int 1] (cd f A R wr) _
                  refine pz_if_eq (off := 6) (t := 57) (by decide +kernel) (by decide) rfl kz_1 (fun h26 => by omega) (fun h26 => ?_)
                  refine pe_iload (j := 4) (by decide +kernel) rfl ?_
                  exact pe_iret (by decide +kernel) rfl rfl (kr_v x4 (by omega))
              · skip
                by_cases h27 : x4.toInt = 5
                · skip
                  refine pe_tableIn (df := 99) (lo := 0) (hi := 11) (off := 78) (offs := #[63, 66, 69, 72, 75, 78, 81, 84, 87, 90, 93, 96]) (t := 79) (by decide +kernel) (by omega) (by rw [h27]; rfl) (by decide) rfl ?_
                  refine pe_ldcS (j := 165) (q := 30) (by decide +kernel) (by decide +kernel) (by decide +kernel) ?_
                  refine pe_xret (by decide +kernel) rfl ⟨rfl, rfl, ?_⟩
                  show pmE pg X pg_tyl pg_cl (d + 6) 30 48 [.ref 23, .int 1, .int 0, .int 6, .int x4] [.retAddr 30, .ref 23] (cd f A R wr) _
                  refine pz_callV (j := 151) (mj := 32) (by decide +kernel) (cll_V (args := [.retAddr 30]) (n := 1) (by decide +kernel) rfl rfl cd_o23 (by decide +kernel) (Nat.le_of_ble_eq_true rfl) (Nat.le_of_ble_eq_true rfl)) (CM_32_5 hX hI (hR4)) (fun q28a q28b q28c q28d hqq28 => ?_)
                  obtain ⟨rq28, eq28, kq28⟩ := hqq28
                  cases eq28
                  refine ⟨rfl, rfl, ?_⟩
                  rcases kq28 with kq28 | kq28
                  · skip
                    obtain ⟨erq28, kq28⟩ := kq28
                    subst erq28
                    show pmE pg X pg_tyl pg_cl (d + 6) 30 51 [.ref 23, .int 1, .int 0, .int 6, .int x4] [.int 0] (cd f A R wr) _
                    refine pz_if_eq (off := 6) (t := 57) (by decide +kernel) (by decide) rfl kz_0 (fun h29 => ?_) (fun h29 => by omega)
                    refine pz_iinc (j := 4) (n := 1) (by decide +kernel) rfl rfl (by decide +kernel) (by omega) (by omega) (fun z30 hz30 => ?_)
                    show pmE pg X pg_tyl pg_cl (d + 6) 30 60 [.ref 23, .int 1, .int 0, .int 6, .int z30] [] (cd f A R wr) _
                    refine pe_goto (off := (-24)) (t := 36) (by decide +kernel) (by decide) rfl ?_
                    exact ih z30 (by omega) (by omega)
                  · skip
                    obtain ⟨erq28, kq28⟩ := kq28
                    subst erq28
                    show pmE pg X pg_tyl pg_cl (d + 6) 30 51 [.ref 23, .int 1, .int 0, .int 6, .int x4] [.int 1] (cd f A R wr) _
                    refine pz_if_eq (off := 6) (t := 57) (by decide +kernel) (by decide) rfl kz_1 (fun h31 => by omega) (fun h31 => ?_)
                    refine pe_iload (j := 4) (by decide +kernel) rfl ?_
                    exact pe_iret (by decide +kernel) rfl rfl (kr_v x4 (by omega))
                · skip
                  exfalso; omega
set_option maxRecDepth 100000 in
set_option maxHeartbeats 8000000 in
theorem CM_30_1 {X : pm_X} {d : Nat} {wr : pm_W} {f : Nat → Int32} {A : Nat → List Int32} {R : Nat → Value} (hX : XO X) (hI : CI f A R) (hR4 : R 4 = .ref 4) : pmE pg X pg_tyl pg_cl (d + 6) 30 0 (pm_ent (pm_max pg 30) [.ref 23, .int 1]) [] (cd f A R wr) (fun q => ∃ (r : Int32), q = (some (.int r), cd f A R wr, 0, 0) ∧ ((((-1) ≤ r.toInt ∧ r.toInt ≤ 5) ∧ True))) := by
  show pmE pg X pg_tyl pg_cl (d + 6) 30 0 [.ref 23, .int 1, pm_dead, pm_dead, pm_dead] [] (cd f A R wr) _
  refine pe_aload_n (j := 0) (by decide +kernel) rfl ?_
  refine pe_get (j := 62) (ci := 4) (n := 6) (by decide +kernel) (by decide +kernel) cd_o23 rfl ?_
  have hr_f_374 := cf_374 hI
  refine pe_iconstv (n := 1) (v := 1) (by decide +kernel) (by decide +kernel) ?_
  refine pz_icmp_eq (off := 5) (t := 10) (by decide +kernel) (by decide) rfl rfl kz_1 (fun h1 => ?_) (fun h1 => ?_)
  · skip
    refine pe_iload_n (j := 1) (by decide +kernel) rfl ?_
    refine pz_if_ne (off := 8) (t := 19) (by decide +kernel) (by decide) rfl kz_1 (fun h2 => ?_) (fun h2 => by omega)
    refine pe_iconstv (n := 0) (v := 0) (by decide +kernel) (by decide +kernel) ?_
    refine pe_istore_n (j := 2) (ls' := [.ref 23, .int 1, .int 0, pm_dead, pm_dead]) (by decide +kernel) (Nat.le_of_ble_eq_true rfl) rfl ?_
    refine pe_iload_n (j := 1) (by decide +kernel) rfl ?_
    refine pz_if_ne (off := 8) (t := 30) (by decide +kernel) (by decide) rfl kz_1 (fun h3 => ?_) (fun h3 => by omega)
    refine pe_bipushv (n := 6) (v := 6) (by decide +kernel) (by decide +kernel) ?_
    refine pe_istore_n (j := 3) (ls' := [.ref 23, .int 1, .int 0, .int 6, pm_dead]) (by decide +kernel) (Nat.le_of_ble_eq_true rfl) rfl ?_
    refine pe_iload_n (j := 2) (by decide +kernel) rfl ?_
    refine pe_istore (j := 4) (ls' := [.ref 23, .int 1, .int 0, .int 6, .int 0]) (by decide +kernel) (Nat.le_of_ble_eq_true rfl) rfl ?_
    refine CL_30_1_36 hX hI (hR4) (fun y4 gy4 => ?_) (fun r5 gr5 => ⟨r5, rfl, ⟨(by omega), trivial⟩⟩) 7 0 (by decide +kernel) (by decide +kernel)
    refine pe_iconstv (n := (-1)) (v := (-1)) (by decide +kernel) (by decide +kernel) ?_
    exact pe_iret (by decide +kernel) rfl rfl ⟨(-1), rfl, ⟨(by decide +kernel), trivial⟩⟩
  · skip
    refine pe_iconstv (n := (-1)) (v := (-1)) (by decide +kernel) (by decide +kernel) ?_
    exact pe_iret (by decide +kernel) rfl rfl ⟨(-1), rfl, ⟨(by decide +kernel), trivial⟩⟩
set_option maxRecDepth 100000 in
set_option maxHeartbeats 8000000 in
theorem CL_48_54 {X : pm_X} {d : Nat} {wr : pm_W} {Q : pm_R → Prop} {f : Nat → Int32} {A : Nat → List Int32} {R : Nat → Value} {x1 x2 : Int32} (hX : XO X) (hI : CI f A R) (gx1 : (2 ≤ x1.toInt ∧ x1.toInt ≤ 2)) (gx2 : (0 ≤ x2.toInt ∧ x2.toInt ≤ 600)) (k_86_0 : ∀ (y3 : Int32), (2 ≤ y3.toInt ∧ y3.toInt ≤ 8) → pmE pg X pg_tyl pg_cl (d) 48 86 [.ref 23, .int x1, .int x2, .int y3] [] (cd f A R wr) Q) (kr_1 : Q (some (.int 1), cd f A R wr, 0, 0)) : ∀ (m : Nat) (x3 : Int32), (2 ≤ x3.toInt ∧ x3.toInt ≤ 8) → 8 - x3.toInt < (m : Int) → pmE pg X pg_tyl pg_cl (d) 48 54 [.ref 23, .int x1, .int x2, .int x3] [] (cd f A R wr) Q := by
  intro m
  induction m with
  | zero =>
    intro x3 gx3 hm
    exfalso
    have l0 := zi_lo x3
    have u0 := zi_hi x3
    omega
  | succ m ih =>
    intro x3 gx3 hm
    refine pe_iload_n (j := 3) (by decide +kernel) rfl ?_
    refine pe_iload_n (j := 2) (by decide +kernel) rfl ?_
    refine pz_icmp_ge (off := 30) (t := 86) (by decide +kernel) (by decide) rfl rfl rfl (fun h1 => ?_) (fun h1 => ?_)
    · skip
      exact k_86_0 x3 (by omega)
    · skip
      refine pe_iload_n (j := 3) (by decide +kernel) rfl ?_
      refine pe_bipushv (n := 8) (v := 8) (by decide +kernel) (by decide +kernel) ?_
      refine pz_icmp_ge (off := 24) (t := 86) (by decide +kernel) (by decide) rfl rfl kz_8 (fun h2 => ?_) (fun h2 => ?_)
      · skip
        exact k_86_0 x3 (by omega)
      · skip
        refine pe_aload_n (j := 0) (by decide +kernel) rfl ?_
        refine pe_get (j := 92) (ci := 4) (n := 8) (by decide +kernel) (by decide +kernel) cd_o23 rfl ?_
        refine pe_aload_n (j := 0) (by decide +kernel) rfl ?_
        refine pe_get (j := 25) (ci := 4) (n := 2) (by decide +kernel) (by decide +kernel) cd_o23 rfl ?_
        refine pe_iload_n (j := 3) (by decide +kernel) rfl ?_
        refine pz_iald (by decide +kernel) cd_a31 (cl_31 hI) rfl (by omega) (by omega) (fun v3 ev3 => ?_)
        have lw5 := zi_lo (f 376)
        have uw5 := zi_hi (f 376)
        have lw6 := zi_lo v3
        have uw6 := zi_hi v3
        refine pz_icmp_ne (off := 5) (t := 80) (by decide +kernel) (by decide) rfl rfl rfl (fun h4 => ?_) (fun h4 => ?_)
        · skip
          refine pz_iinc (j := 3) (n := 1) (by decide +kernel) rfl rfl (by decide +kernel) (by omega) (by omega) (fun z7 hz7 => ?_)
          show pmE pg X pg_tyl pg_cl (d) 48 83 [.ref 23, .int x1, .int x2, .int z7] [] (cd f A R wr) _
          refine pe_goto (off := (-29)) (t := 54) (by decide +kernel) (by decide) rfl ?_
          exact ih z7 (by omega) (by omega)
        · skip
          refine pe_iconstv (n := 1) (v := 1) (by decide +kernel) (by decide +kernel) ?_
          exact pe_iret (by decide +kernel) rfl rfl kr_1
set_option maxRecDepth 100000 in
set_option maxHeartbeats 8000000 in
theorem CM_48 {X : pm_X} {d : Nat} {wr : pm_W} {f : Nat → Int32} {A : Nat → List Int32} {R : Nat → Value} {x1 x2 : Int32} (hX : XO X) (hI : CI f A R) (gx1 : (0 ≤ x1.toInt ∧ x1.toInt ≤ 12)) (gx2 : (0 ≤ x2.toInt ∧ x2.toInt ≤ 600)) : pmE pg X pg_tyl pg_cl (d) 48 0 (pm_ent (pm_max pg 48) [.ref 23, .int x1, .int x2]) [] (cd f A R wr) (fun q => ∃ (r : Int32), q = (some (.int r), cd f A R wr, 0, 0) ∧ ((r = 0 ∧ True) ∨ (r = 1 ∧ True))) := by
  show pmE pg X pg_tyl pg_cl (d) 48 0 [.ref 23, .int x1, .int x2, pm_dead] [] (cd f A R wr) _
  refine pe_iload_n (j := 1) (by decide +kernel) rfl ?_
  refine pz_if_eq (off := 20) (t := 21) (by decide +kernel) (by decide) rfl rfl (fun h1 => ?_) (fun h1 => ?_)
  · skip
    refine pe_iload_n (j := 2) (by decide +kernel) rfl ?_
    refine pe_iconstv (n := 1) (v := 1) (by decide +kernel) (by decide +kernel) ?_
    refine pz_icmp_ne (off := 20) (t := 43) (by decide +kernel) (by decide) rfl rfl kz_1 (fun h2 => ?_) (fun h2 => ?_)
    · skip
      refine pe_iconstv (n := 0) (v := 0) (by decide +kernel) (by decide +kernel) ?_
      exact pe_iret (by decide +kernel) rfl rfl ⟨0, rfl, Or.inl ⟨rfl, trivial⟩⟩
    · skip
      refine pe_aload_n (j := 0) (by decide +kernel) rfl ?_
      refine pe_get (j := 92) (ci := 4) (n := 8) (by decide +kernel) (by decide +kernel) cd_o23 rfl ?_
      refine pe_aload_n (j := 0) (by decide +kernel) rfl ?_
      refine pe_get (j := 25) (ci := 4) (n := 2) (by decide +kernel) (by decide +kernel) cd_o23 rfl ?_
      refine pe_iconstv (n := 0) (v := 0) (by decide +kernel) (by decide +kernel) ?_
      refine pz_iald (by decide +kernel) cd_a31 (cl_31 hI) kz_0 (by omega) (by omega) (fun v3 ev3 => ?_)
      have hvv3 : v3.toInt = ((A 31).getD 0 0).toInt := (congrArg Int32.toInt (ev3.trans (show (A 31).getD 0 0 = ((A 31).getD 0 0) from rfl))).trans rfl
      have lw5 := zi_lo (f 376)
      have uw5 := zi_hi (f 376)
      have lw6 := zi_lo v3
      have uw6 := zi_hi v3
      refine pz_icmp_ne (off := 7) (t := 43) (by decide +kernel) (by decide) rfl rfl rfl (fun h4 => ?_) (fun h4 => ?_)
      · skip
        refine pe_iconstv (n := 0) (v := 0) (by decide +kernel) (by decide +kernel) ?_
        exact pe_iret (by decide +kernel) rfl rfl ⟨0, rfl, Or.inl ⟨rfl, trivial⟩⟩
      · skip
        refine pe_iconstv (n := 1) (v := 1) (by decide +kernel) (by decide +kernel) ?_
        refine pe_goto (off := 4) (t := 44) (by decide +kernel) (by decide) rfl ?_
        exact pe_iret (by decide +kernel) rfl rfl ⟨1, rfl, Or.inr (⟨rfl, trivial⟩)⟩
  · skip
    refine pe_iload_n (j := 1) (by decide +kernel) rfl ?_
    refine pe_iconstv (n := 1) (v := 1) (by decide +kernel) (by decide +kernel) ?_
    refine pz_icmp_eq (off := 15) (t := 21) (by decide +kernel) (by decide) rfl rfl kz_1 (fun h7 => ?_) (fun h7 => ?_)
    · skip
      refine pe_iload_n (j := 2) (by decide +kernel) rfl ?_
      refine pe_iconstv (n := 1) (v := 1) (by decide +kernel) (by decide +kernel) ?_
      refine pz_icmp_ne (off := 20) (t := 43) (by decide +kernel) (by decide) rfl rfl kz_1 (fun h8 => ?_) (fun h8 => ?_)
      · skip
        refine pe_iconstv (n := 0) (v := 0) (by decide +kernel) (by decide +kernel) ?_
        exact pe_iret (by decide +kernel) rfl rfl ⟨0, rfl, Or.inl ⟨rfl, trivial⟩⟩
      · skip
        refine pe_aload_n (j := 0) (by decide +kernel) rfl ?_
        refine pe_get (j := 92) (ci := 4) (n := 8) (by decide +kernel) (by decide +kernel) cd_o23 rfl ?_
        refine pe_aload_n (j := 0) (by decide +kernel) rfl ?_
        refine pe_get (j := 25) (ci := 4) (n := 2) (by decide +kernel) (by decide +kernel) cd_o23 rfl ?_
        refine pe_iconstv (n := 0) (v := 0) (by decide +kernel) (by decide +kernel) ?_
        refine pz_iald (by decide +kernel) cd_a31 (cl_31 hI) kz_0 (by omega) (by omega) (fun v9 ev9 => ?_)
        have hvv9 : v9.toInt = ((A 31).getD 0 0).toInt := (congrArg Int32.toInt (ev9.trans (show (A 31).getD 0 0 = ((A 31).getD 0 0) from rfl))).trans rfl
        have lw11 := zi_lo (f 376)
        have uw11 := zi_hi (f 376)
        have lw12 := zi_lo v9
        have uw12 := zi_hi v9
        refine pz_icmp_ne (off := 7) (t := 43) (by decide +kernel) (by decide) rfl rfl rfl (fun h10 => ?_) (fun h10 => ?_)
        · skip
          refine pe_iconstv (n := 0) (v := 0) (by decide +kernel) (by decide +kernel) ?_
          exact pe_iret (by decide +kernel) rfl rfl ⟨0, rfl, Or.inl ⟨rfl, trivial⟩⟩
        · skip
          refine pe_iconstv (n := 1) (v := 1) (by decide +kernel) (by decide +kernel) ?_
          refine pe_goto (off := 4) (t := 44) (by decide +kernel) (by decide) rfl ?_
          exact pe_iret (by decide +kernel) rfl rfl ⟨1, rfl, Or.inr (⟨rfl, trivial⟩)⟩
    · skip
      refine pe_iload_n (j := 1) (by decide +kernel) rfl ?_
      refine pe_bipushv (n := 7) (v := 7) (by decide +kernel) (by decide +kernel) ?_
      refine pz_icmp_eq (off := 9) (t := 21) (by decide +kernel) (by decide) rfl rfl kz_7 (fun h13 => ?_) (fun h13 => ?_)
      · skip
        refine pe_iload_n (j := 2) (by decide +kernel) rfl ?_
        refine pe_iconstv (n := 1) (v := 1) (by decide +kernel) (by decide +kernel) ?_
        refine pz_icmp_ne (off := 20) (t := 43) (by decide +kernel) (by decide) rfl rfl kz_1 (fun h14 => ?_) (fun h14 => ?_)
        · skip
          refine pe_iconstv (n := 0) (v := 0) (by decide +kernel) (by decide +kernel) ?_
          exact pe_iret (by decide +kernel) rfl rfl ⟨0, rfl, Or.inl ⟨rfl, trivial⟩⟩
        · skip
          refine pe_aload_n (j := 0) (by decide +kernel) rfl ?_
          refine pe_get (j := 92) (ci := 4) (n := 8) (by decide +kernel) (by decide +kernel) cd_o23 rfl ?_
          refine pe_aload_n (j := 0) (by decide +kernel) rfl ?_
          refine pe_get (j := 25) (ci := 4) (n := 2) (by decide +kernel) (by decide +kernel) cd_o23 rfl ?_
          refine pe_iconstv (n := 0) (v := 0) (by decide +kernel) (by decide +kernel) ?_
          refine pz_iald (by decide +kernel) cd_a31 (cl_31 hI) kz_0 (by omega) (by omega) (fun v15 ev15 => ?_)
          have hvv15 : v15.toInt = ((A 31).getD 0 0).toInt := (congrArg Int32.toInt (ev15.trans (show (A 31).getD 0 0 = ((A 31).getD 0 0) from rfl))).trans rfl
          have lw17 := zi_lo (f 376)
          have uw17 := zi_hi (f 376)
          have lw18 := zi_lo v15
          have uw18 := zi_hi v15
          refine pz_icmp_ne (off := 7) (t := 43) (by decide +kernel) (by decide) rfl rfl rfl (fun h16 => ?_) (fun h16 => ?_)
          · skip
            refine pe_iconstv (n := 0) (v := 0) (by decide +kernel) (by decide +kernel) ?_
            exact pe_iret (by decide +kernel) rfl rfl ⟨0, rfl, Or.inl ⟨rfl, trivial⟩⟩
          · skip
            refine pe_iconstv (n := 1) (v := 1) (by decide +kernel) (by decide +kernel) ?_
            refine pe_goto (off := 4) (t := 44) (by decide +kernel) (by decide) rfl ?_
            exact pe_iret (by decide +kernel) rfl rfl ⟨1, rfl, Or.inr (⟨rfl, trivial⟩)⟩
      · skip
        refine pe_iload_n (j := 1) (by decide +kernel) rfl ?_
        refine pe_bipushv (n := 12) (v := 12) (by decide +kernel) (by decide +kernel) ?_
        refine pz_icmp_ne (off := 27) (t := 45) (by decide +kernel) (by decide) rfl rfl kz_12 (fun h19 => ?_) (fun h19 => ?_)
        · skip
          refine pe_iload_n (j := 1) (by decide +kernel) rfl ?_
          refine pe_iconstv (n := 2) (v := 2) (by decide +kernel) (by decide +kernel) ?_
          refine pz_icmp_eq (off := 5) (t := 52) (by decide +kernel) (by decide) rfl rfl kz_2 (fun h20 => ?_) (fun h20 => ?_)
          · skip
            refine pe_iconstv (n := 2) (v := 2) (by decide +kernel) (by decide +kernel) ?_
            refine pe_istore_n (j := 3) (ls' := [.ref 23, .int x1, .int x2, .int 2]) (by decide +kernel) (Nat.le_of_ble_eq_true rfl) rfl ?_
            refine CL_48_54 hX hI (by omega) (by omega) (fun y21 gy21 => ?_) (⟨1, rfl, Or.inr (⟨rfl, trivial⟩)⟩) 7 2 (by decide +kernel) (by decide +kernel)
            refine pe_iconstv (n := 0) (v := 0) (by decide +kernel) (by decide +kernel) ?_
            exact pe_iret (by decide +kernel) rfl rfl ⟨0, rfl, Or.inl ⟨rfl, trivial⟩⟩
          · skip
            refine pe_iconstv (n := 0) (v := 0) (by decide +kernel) (by decide +kernel) ?_
            exact pe_iret (by decide +kernel) rfl rfl ⟨0, rfl, Or.inl ⟨rfl, trivial⟩⟩
        · skip
          refine pe_iload_n (j := 2) (by decide +kernel) rfl ?_
          refine pe_iconstv (n := 1) (v := 1) (by decide +kernel) (by decide +kernel) ?_
          refine pz_icmp_ne (off := 20) (t := 43) (by decide +kernel) (by decide) rfl rfl kz_1 (fun h22 => ?_) (fun h22 => ?_)
          · skip
            refine pe_iconstv (n := 0) (v := 0) (by decide +kernel) (by decide +kernel) ?_
            exact pe_iret (by decide +kernel) rfl rfl ⟨0, rfl, Or.inl ⟨rfl, trivial⟩⟩
          · skip
            refine pe_aload_n (j := 0) (by decide +kernel) rfl ?_
            refine pe_get (j := 92) (ci := 4) (n := 8) (by decide +kernel) (by decide +kernel) cd_o23 rfl ?_
            refine pe_aload_n (j := 0) (by decide +kernel) rfl ?_
            refine pe_get (j := 25) (ci := 4) (n := 2) (by decide +kernel) (by decide +kernel) cd_o23 rfl ?_
            refine pe_iconstv (n := 0) (v := 0) (by decide +kernel) (by decide +kernel) ?_
            refine pz_iald (by decide +kernel) cd_a31 (cl_31 hI) kz_0 (by omega) (by omega) (fun v23 ev23 => ?_)
            have hvv23 : v23.toInt = ((A 31).getD 0 0).toInt := (congrArg Int32.toInt (ev23.trans (show (A 31).getD 0 0 = ((A 31).getD 0 0) from rfl))).trans rfl
            have lw25 := zi_lo (f 376)
            have uw25 := zi_hi (f 376)
            have lw26 := zi_lo v23
            have uw26 := zi_hi v23
            refine pz_icmp_ne (off := 7) (t := 43) (by decide +kernel) (by decide) rfl rfl rfl (fun h24 => ?_) (fun h24 => ?_)
            · skip
              refine pe_iconstv (n := 0) (v := 0) (by decide +kernel) (by decide +kernel) ?_
              exact pe_iret (by decide +kernel) rfl rfl ⟨0, rfl, Or.inl ⟨rfl, trivial⟩⟩
            · skip
              refine pe_iconstv (n := 1) (v := 1) (by decide +kernel) (by decide +kernel) ?_
              refine pe_goto (off := 4) (t := 44) (by decide +kernel) (by decide) rfl ?_
              exact pe_iret (by decide +kernel) rfl rfl ⟨1, rfl, Or.inr (⟨rfl, trivial⟩)⟩
set_option maxRecDepth 100000 in
set_option maxHeartbeats 8000000 in
theorem CM_47 {X : pm_X} {d : Nat} {wr : pm_W} {f : Nat → Int32} {A : Nat → List Int32} {R : Nat → Value} {x1 x2 : Int32} (hX : XO X) (hI : CI f A R) (gx1 : (0 ≤ x1.toInt ∧ x1.toInt ≤ 12)) (gx2 : (0 ≤ x2.toInt ∧ x2.toInt ≤ 600)) : pmE pg X pg_tyl pg_cl (d + 1) 47 0 (pm_ent (pm_max pg 47) [.ref 23, .int x1, .int x2]) [] (cd f A R wr) (fun q => ∃ (f' : Nat → Int32), q = (none, cd f' A R wr, 0, 0) ∧ CI f' A R ∧ (∀ k : Nat, k ≠ 378 → k ≠ 379 → f' k = f k) ∧ ((((f' 378).toInt = 0 → (f 378).toInt = 0 ∧ (x2.toInt < 2 → lo2 x1.toInt x2.toInt ≤ (f 376).toInt ∧ (f 376).toInt ≤ hi2 x1.toInt x2.toInt)) ∧ True))) := by
  show pmE pg X pg_tyl pg_cl (d + 1) 47 0 [.ref 23, .int x1, .int x2, pm_dead] [] (cd f A R wr) _
  refine pe_iload_n (j := 1) (by decide +kernel) rfl ?_
  refine pe_iconstv (n := 4) (v := 4) (by decide +kernel) (by decide +kernel) ?_
  refine pz_mul (by decide +kernel) rfl kz_4 (by omega) (by omega) (fun z1 hz1 => ?_)
  refine pe_iload_n (j := 2) (by decide +kernel) rfl ?_
  refine pe_iconstv (n := 3) (v := 3) (by decide +kernel) (by decide +kernel) ?_
  have hl3 := kz_3
  by_cases h4 : x2.toInt ≤ 3
  · skip
    refine pz_minL (j := 37) (by decide +kernel) (by decide +kernel) (Nat.le_of_ble_eq_true rfl) rfl kz_3 (by omega) ?_
    refine pz_add (by decide +kernel) hz1 rfl (by omega) (by omega) (fun z5 hz5 => ?_)
    clear hz1
    refine pe_istore_n (j := 3) (ls' := [.ref 23, .int x1, .int x2, .int z5]) (by decide +kernel) (Nat.le_of_ble_eq_true rfl) rfl ?_
    refine pe_aload_n (j := 0) (by decide +kernel) rfl ?_
    refine pe_get (j := 92) (ci := 4) (n := 8) (by decide +kernel) (by decide +kernel) cd_o23 rfl ?_
    refine pe_getstatic (j := 107) (v := .retAddr 2) (by decide +kernel) (by decide +kernel) ?_
    refine pe_iload_n (j := 3) (by decide +kernel) rfl ?_
    refine pz_ialdX (n := 52) (by decide +kernel) (hX 2 (by decide +kernel)) rfl hz5 (by omega) (by omega) (fun v6 ev6 => ?_)
    have rv6 : 0 ≤ v6.toInt ∧ v6.toInt ≤ 2 := by rw [ev6]; exact lt_all (by decide +kernel) (by decide) _
    have lw8 := zi_lo (f 376)
    have uw8 := zi_hi (f 376)
    refine pz_icmp_lt (off := 24) (t := 43) (by decide +kernel) (by decide) rfl rfl rfl (fun h7 => ?_) (fun h7 => ?_)
    · skip
      refine pe_aload_n (j := 0) (by decide +kernel) rfl ?_
      refine pe_iconstv (n := 2) (v := 2) (by decide +kernel) (by decide +kernel) ?_
      refine pe_aload_n (j := 0) (by decide +kernel) rfl ?_
      refine pe_get (j := 69) (ci := 4) (n := 7) (by decide +kernel) (by decide +kernel) cd_o23 rfl ?_
      have hr_f_375 := cf_375 hI
      refine pi_V (j := 75) (mj := 46) (by decide +kernel) (cll_V (args := [.int (f 375), .int 2]) (n := 2) (by decide +kernel) rfl rfl cd_o23 (by decide +kernel) (Nat.le_of_ble_eq_true rfl) (Nat.le_of_ble_eq_true rfl)) ?_
      show pmE pg X pg_tyl pg_cl (d) 46 0 [.ref 23, .int 2, .int (f 375)] [] (cd f A R wr) _
      refine pe_aload_n (j := 0) (by decide +kernel) rfl ?_
      refine pe_get (j := 53) (ci := 4) (n := 10) (by decide +kernel) (by decide +kernel) cd_o23 rfl ?_
      have lw10 := zi_lo (f 378)
      have uw10 := zi_hi (f 378)
      refine pz_if_ne (off := 13) (t := 17) (by decide +kernel) (by decide) rfl rfl (fun h9 => ?_) (fun h9 => ?_)
      · skip
        refine pe_vret (by decide +kernel) rfl ⟨rfl, rfl, ?_⟩
        show pmE pg X pg_tyl pg_cl (d + 1) 47 52 [.ref 23, .int x1, .int x2, .int z5] [] (cd f A R wr) _
        refine pe_iload_n (j := 2) (by decide +kernel) rfl ?_
        refine pe_bipushv (n := 8) (v := 8) (by decide +kernel) (by decide +kernel) ?_
        refine pz_icmp_lt (off := 12) (t := 67) (by decide +kernel) (by decide) rfl rfl kz_8 (fun h11 => ?_) (fun h11 => by omega)
        exact pe_vret (by decide +kernel) rfl ⟨f, rfl, hI, (fun k n378 n379 => rfl), ⟨(fun h0 => by first | (exfalso; omega) | exact ⟨by omega, fun h1 => by first | (exfalso; omega)⟩), trivial⟩⟩
      · skip
        refine pe_aload_n (j := 0) (by decide +kernel) rfl ?_
        refine pe_iload_n (j := 1) (by decide +kernel) rfl ?_
        refine cz_put378 (jj := 53) (by decide +kernel) (by decide +kernel) hI (fun f12 ef12 hIf12 => ?_)
        refine pe_aload_n (j := 0) (by decide +kernel) rfl ?_
        refine pe_iload_n (j := 2) (by decide +kernel) rfl ?_
        refine cz_put379 (jj := 56) (by decide +kernel) (by decide +kernel) hIf12 (fun f13 ef13 hIf13 => ?_)
        refine pe_vret (by decide +kernel) rfl ⟨rfl, rfl, ?_⟩
        show pmE pg X pg_tyl pg_cl (d + 1) 47 52 [.ref 23, .int x1, .int x2, .int z5] [] (cd f13 A R wr) _
        refine pe_iload_n (j := 2) (by decide +kernel) rfl ?_
        refine pe_bipushv (n := 8) (v := 8) (by decide +kernel) (by decide +kernel) ?_
        refine pz_icmp_lt (off := 12) (t := 67) (by decide +kernel) (by decide) rfl rfl kz_8 (fun h14 => ?_) (fun h14 => by omega)
        have hx15 : (f13 378).toInt = 2 := (congrArg Int32.toInt (show f13 378 = 2 from (upf_fr ef13 (by decide)).trans (upf_at ef12))).trans kz_2
        exact pe_vret (by decide +kernel) rfl ⟨f13, rfl, hIf13, (fun k n378 n379 => (upf_fr ef13 n379).trans (upf_fr ef12 n378)), ⟨(fun h0 => by first | (exfalso; omega) | exact ⟨by omega, fun h1 => by first | (exfalso; omega)⟩), trivial⟩⟩
    · skip
      refine pe_aload_n (j := 0) (by decide +kernel) rfl ?_
      refine pe_get (j := 92) (ci := 4) (n := 8) (by decide +kernel) (by decide +kernel) cd_o23 rfl ?_
      refine pe_getstatic (j := 110) (v := .retAddr 3) (by decide +kernel) (by decide +kernel) ?_
      refine pe_iload_n (j := 3) (by decide +kernel) rfl ?_
      refine pz_ialdX (n := 52) (by decide +kernel) (hX 3 (by decide +kernel)) rfl hz5 (by omega) (by omega) (fun v16 ev16 => ?_)
      have rv16 : 0 ≤ v16.toInt ∧ v16.toInt ≤ 100 := by rw [ev16]; exact lt_all (by decide +kernel) (by decide) _
      refine pz_icmp_gt (off := 12) (t := 43) (by decide +kernel) (by decide) rfl rfl rfl (fun h17 => ?_) (fun h17 => ?_)
      · skip
        refine pe_aload_n (j := 0) (by decide +kernel) rfl ?_
        refine pe_iconstv (n := 2) (v := 2) (by decide +kernel) (by decide +kernel) ?_
        refine pe_aload_n (j := 0) (by decide +kernel) rfl ?_
        refine pe_get (j := 69) (ci := 4) (n := 7) (by decide +kernel) (by decide +kernel) cd_o23 rfl ?_
        have hr_f_375 := cf_375 hI
        refine pi_V (j := 75) (mj := 46) (by decide +kernel) (cll_V (args := [.int (f 375), .int 2]) (n := 2) (by decide +kernel) rfl rfl cd_o23 (by decide +kernel) (Nat.le_of_ble_eq_true rfl) (Nat.le_of_ble_eq_true rfl)) ?_
        show pmE pg X pg_tyl pg_cl (d) 46 0 [.ref 23, .int 2, .int (f 375)] [] (cd f A R wr) _
        refine pe_aload_n (j := 0) (by decide +kernel) rfl ?_
        refine pe_get (j := 53) (ci := 4) (n := 10) (by decide +kernel) (by decide +kernel) cd_o23 rfl ?_
        have lw19 := zi_lo (f 378)
        have uw19 := zi_hi (f 378)
        refine pz_if_ne (off := 13) (t := 17) (by decide +kernel) (by decide) rfl rfl (fun h18 => ?_) (fun h18 => ?_)
        · skip
          refine pe_vret (by decide +kernel) rfl ⟨rfl, rfl, ?_⟩
          show pmE pg X pg_tyl pg_cl (d + 1) 47 52 [.ref 23, .int x1, .int x2, .int z5] [] (cd f A R wr) _
          refine pe_iload_n (j := 2) (by decide +kernel) rfl ?_
          refine pe_bipushv (n := 8) (v := 8) (by decide +kernel) (by decide +kernel) ?_
          refine pz_icmp_lt (off := 12) (t := 67) (by decide +kernel) (by decide) rfl rfl kz_8 (fun h20 => ?_) (fun h20 => by omega)
          exact pe_vret (by decide +kernel) rfl ⟨f, rfl, hI, (fun k n378 n379 => rfl), ⟨(fun h0 => by first | (exfalso; omega) | exact ⟨by omega, fun h1 => by first | (exfalso; omega) | (have e1 : lo2 x1.toInt x2.toInt = v6.toInt := congrArg Int32.toInt ev6.symm; have e2 : hi2 x1.toInt x2.toInt = v16.toInt := congrArg Int32.toInt ev16.symm; omega)⟩), trivial⟩⟩
        · skip
          refine pe_aload_n (j := 0) (by decide +kernel) rfl ?_
          refine pe_iload_n (j := 1) (by decide +kernel) rfl ?_
          refine cz_put378 (jj := 53) (by decide +kernel) (by decide +kernel) hI (fun f21 ef21 hIf21 => ?_)
          refine pe_aload_n (j := 0) (by decide +kernel) rfl ?_
          refine pe_iload_n (j := 2) (by decide +kernel) rfl ?_
          refine cz_put379 (jj := 56) (by decide +kernel) (by decide +kernel) hIf21 (fun f22 ef22 hIf22 => ?_)
          refine pe_vret (by decide +kernel) rfl ⟨rfl, rfl, ?_⟩
          show pmE pg X pg_tyl pg_cl (d + 1) 47 52 [.ref 23, .int x1, .int x2, .int z5] [] (cd f22 A R wr) _
          refine pe_iload_n (j := 2) (by decide +kernel) rfl ?_
          refine pe_bipushv (n := 8) (v := 8) (by decide +kernel) (by decide +kernel) ?_
          refine pz_icmp_lt (off := 12) (t := 67) (by decide +kernel) (by decide) rfl rfl kz_8 (fun h23 => ?_) (fun h23 => by omega)
          have hx24 : (f22 378).toInt = 2 := (congrArg Int32.toInt (show f22 378 = 2 from (upf_fr ef22 (by decide)).trans (upf_at ef21))).trans kz_2
          exact pe_vret (by decide +kernel) rfl ⟨f22, rfl, hIf22, (fun k n378 n379 => (upf_fr ef22 n379).trans (upf_fr ef21 n378)), ⟨(fun h0 => by first | (exfalso; omega) | exact ⟨by omega, fun h1 => by first | (exfalso; omega) | (have e1 : lo2 x1.toInt x2.toInt = v6.toInt := congrArg Int32.toInt ev6.symm; have e2 : hi2 x1.toInt x2.toInt = v16.toInt := congrArg Int32.toInt ev16.symm; omega)⟩), trivial⟩⟩
      · skip
        refine pe_aload_n (j := 0) (by decide +kernel) rfl ?_
        refine pe_iload_n (j := 1) (by decide +kernel) rfl ?_
        refine pe_iload_n (j := 2) (by decide +kernel) rfl ?_
        refine pz_callV (j := 113) (mj := 48) (by decide +kernel) (cll_V (args := [.int x2, .int x1]) (n := 2) (by decide +kernel) rfl rfl cd_o23 (by decide +kernel) (Nat.le_of_ble_eq_true rfl) (Nat.le_of_ble_eq_true rfl)) (CM_48 hX hI (by omega) (by omega)) (fun q25a q25b q25c q25d hqq25 => ?_)
        obtain ⟨rq25, eq25, kq25⟩ := hqq25
        cases eq25
        refine ⟨rfl, rfl, ?_⟩
        rcases kq25 with kq25 | kq25
        · skip
          obtain ⟨erq25, kq25⟩ := kq25
          subst erq25
          show pmE pg X pg_tyl pg_cl (d + 1) 47 40 [.ref 23, .int x1, .int x2, .int z5] [.int 0] (cd f A R wr) _
          refine pz_if_eq (off := 12) (t := 52) (by decide +kernel) (by decide) rfl kz_0 (fun h26 => ?_) (fun h26 => by omega)
          refine pe_iload_n (j := 2) (by decide +kernel) rfl ?_
          refine pe_bipushv (n := 8) (v := 8) (by decide +kernel) (by decide +kernel) ?_
          refine pz_icmp_lt (off := 12) (t := 67) (by decide +kernel) (by decide) rfl rfl kz_8 (fun h27 => ?_) (fun h27 => by omega)
          exact pe_vret (by decide +kernel) rfl ⟨f, rfl, hI, (fun k n378 n379 => rfl), ⟨(fun h0 => by first | (exfalso; omega) | exact ⟨by omega, fun h1 => by first | (exfalso; omega) | (have e1 : lo2 x1.toInt x2.toInt = v6.toInt := congrArg Int32.toInt ev6.symm; have e2 : hi2 x1.toInt x2.toInt = v16.toInt := congrArg Int32.toInt ev16.symm; omega)⟩), trivial⟩⟩
        · skip
          obtain ⟨erq25, kq25⟩ := kq25
          subst erq25
          show pmE pg X pg_tyl pg_cl (d + 1) 47 40 [.ref 23, .int x1, .int x2, .int z5] [.int 1] (cd f A R wr) _
          refine pz_if_eq (off := 12) (t := 52) (by decide +kernel) (by decide) rfl kz_1 (fun h28 => by omega) (fun h28 => ?_)
          refine pe_aload_n (j := 0) (by decide +kernel) rfl ?_
          refine pe_iconstv (n := 2) (v := 2) (by decide +kernel) (by decide +kernel) ?_
          refine pe_aload_n (j := 0) (by decide +kernel) rfl ?_
          refine pe_get (j := 69) (ci := 4) (n := 7) (by decide +kernel) (by decide +kernel) cd_o23 rfl ?_
          have hr_f_375 := cf_375 hI
          refine pi_V (j := 75) (mj := 46) (by decide +kernel) (cll_V (args := [.int (f 375), .int 2]) (n := 2) (by decide +kernel) rfl rfl cd_o23 (by decide +kernel) (Nat.le_of_ble_eq_true rfl) (Nat.le_of_ble_eq_true rfl)) ?_
          show pmE pg X pg_tyl pg_cl (d) 46 0 [.ref 23, .int 2, .int (f 375)] [] (cd f A R wr) _
          refine pe_aload_n (j := 0) (by decide +kernel) rfl ?_
          refine pe_get (j := 53) (ci := 4) (n := 10) (by decide +kernel) (by decide +kernel) cd_o23 rfl ?_
          have lw30 := zi_lo (f 378)
          have uw30 := zi_hi (f 378)
          refine pz_if_ne (off := 13) (t := 17) (by decide +kernel) (by decide) rfl rfl (fun h29 => ?_) (fun h29 => ?_)
          · skip
            refine pe_vret (by decide +kernel) rfl ⟨rfl, rfl, ?_⟩
            show pmE pg X pg_tyl pg_cl (d + 1) 47 52 [.ref 23, .int x1, .int x2, .int z5] [] (cd f A R wr) _
            refine pe_iload_n (j := 2) (by decide +kernel) rfl ?_
            refine pe_bipushv (n := 8) (v := 8) (by decide +kernel) (by decide +kernel) ?_
            refine pz_icmp_lt (off := 12) (t := 67) (by decide +kernel) (by decide) rfl rfl kz_8 (fun h31 => ?_) (fun h31 => by omega)
            exact pe_vret (by decide +kernel) rfl ⟨f, rfl, hI, (fun k n378 n379 => rfl), ⟨(fun h0 => by first | (exfalso; omega) | exact ⟨by omega, fun h1 => by first | (exfalso; omega) | (have e1 : lo2 x1.toInt x2.toInt = v6.toInt := congrArg Int32.toInt ev6.symm; have e2 : hi2 x1.toInt x2.toInt = v16.toInt := congrArg Int32.toInt ev16.symm; omega)⟩), trivial⟩⟩
          · skip
            refine pe_aload_n (j := 0) (by decide +kernel) rfl ?_
            refine pe_iload_n (j := 1) (by decide +kernel) rfl ?_
            refine cz_put378 (jj := 53) (by decide +kernel) (by decide +kernel) hI (fun f32 ef32 hIf32 => ?_)
            refine pe_aload_n (j := 0) (by decide +kernel) rfl ?_
            refine pe_iload_n (j := 2) (by decide +kernel) rfl ?_
            refine cz_put379 (jj := 56) (by decide +kernel) (by decide +kernel) hIf32 (fun f33 ef33 hIf33 => ?_)
            refine pe_vret (by decide +kernel) rfl ⟨rfl, rfl, ?_⟩
            show pmE pg X pg_tyl pg_cl (d + 1) 47 52 [.ref 23, .int x1, .int x2, .int z5] [] (cd f33 A R wr) _
            refine pe_iload_n (j := 2) (by decide +kernel) rfl ?_
            refine pe_bipushv (n := 8) (v := 8) (by decide +kernel) (by decide +kernel) ?_
            refine pz_icmp_lt (off := 12) (t := 67) (by decide +kernel) (by decide) rfl rfl kz_8 (fun h34 => ?_) (fun h34 => by omega)
            have hx35 : (f33 378).toInt = 2 := (congrArg Int32.toInt (show f33 378 = 2 from (upf_fr ef33 (by decide)).trans (upf_at ef32))).trans kz_2
            exact pe_vret (by decide +kernel) rfl ⟨f33, rfl, hIf33, (fun k n378 n379 => (upf_fr ef33 n379).trans (upf_fr ef32 n378)), ⟨(fun h0 => by first | (exfalso; omega) | exact ⟨by omega, fun h1 => by first | (exfalso; omega) | (have e1 : lo2 x1.toInt x2.toInt = v6.toInt := congrArg Int32.toInt ev6.symm; have e2 : hi2 x1.toInt x2.toInt = v16.toInt := congrArg Int32.toInt ev16.symm; omega)⟩), trivial⟩⟩
  · skip
    refine pz_minR (j := 37) (by decide +kernel) (by decide +kernel) (Nat.le_of_ble_eq_true rfl) rfl kz_3 (by omega) ?_
    refine pz_add (by decide +kernel) hz1 kz_3 (by omega) (by omega) (fun z36 hz36 => ?_)
    clear hz1
    refine pe_istore_n (j := 3) (ls' := [.ref 23, .int x1, .int x2, .int z36]) (by decide +kernel) (Nat.le_of_ble_eq_true rfl) rfl ?_
    refine pe_aload_n (j := 0) (by decide +kernel) rfl ?_
    refine pe_get (j := 92) (ci := 4) (n := 8) (by decide +kernel) (by decide +kernel) cd_o23 rfl ?_
    refine pe_getstatic (j := 107) (v := .retAddr 2) (by decide +kernel) (by decide +kernel) ?_
    refine pe_iload_n (j := 3) (by decide +kernel) rfl ?_
    refine pz_ialdX (n := 52) (by decide +kernel) (hX 2 (by decide +kernel)) rfl hz36 (by omega) (by omega) (fun v37 ev37 => ?_)
    have rv37 : 0 ≤ v37.toInt ∧ v37.toInt ≤ 2 := by rw [ev37]; exact lt_all (by decide +kernel) (by decide) _
    have lw39 := zi_lo (f 376)
    have uw39 := zi_hi (f 376)
    refine pz_icmp_lt (off := 24) (t := 43) (by decide +kernel) (by decide) rfl rfl rfl (fun h38 => ?_) (fun h38 => ?_)
    · skip
      refine pe_aload_n (j := 0) (by decide +kernel) rfl ?_
      refine pe_iconstv (n := 2) (v := 2) (by decide +kernel) (by decide +kernel) ?_
      refine pe_aload_n (j := 0) (by decide +kernel) rfl ?_
      refine pe_get (j := 69) (ci := 4) (n := 7) (by decide +kernel) (by decide +kernel) cd_o23 rfl ?_
      have hr_f_375 := cf_375 hI
      refine pi_V (j := 75) (mj := 46) (by decide +kernel) (cll_V (args := [.int (f 375), .int 2]) (n := 2) (by decide +kernel) rfl rfl cd_o23 (by decide +kernel) (Nat.le_of_ble_eq_true rfl) (Nat.le_of_ble_eq_true rfl)) ?_
      show pmE pg X pg_tyl pg_cl (d) 46 0 [.ref 23, .int 2, .int (f 375)] [] (cd f A R wr) _
      refine pe_aload_n (j := 0) (by decide +kernel) rfl ?_
      refine pe_get (j := 53) (ci := 4) (n := 10) (by decide +kernel) (by decide +kernel) cd_o23 rfl ?_
      have lw41 := zi_lo (f 378)
      have uw41 := zi_hi (f 378)
      refine pz_if_ne (off := 13) (t := 17) (by decide +kernel) (by decide) rfl rfl (fun h40 => ?_) (fun h40 => ?_)
      · skip
        refine pe_vret (by decide +kernel) rfl ⟨rfl, rfl, ?_⟩
        show pmE pg X pg_tyl pg_cl (d + 1) 47 52 [.ref 23, .int x1, .int x2, .int z36] [] (cd f A R wr) _
        refine pe_iload_n (j := 2) (by decide +kernel) rfl ?_
        refine pe_bipushv (n := 8) (v := 8) (by decide +kernel) (by decide +kernel) ?_
        refine pz_icmp_lt (off := 12) (t := 67) (by decide +kernel) (by decide) rfl rfl kz_8 (fun h42 => ?_) (fun h42 => ?_)
        · skip
          exact pe_vret (by decide +kernel) rfl ⟨f, rfl, hI, (fun k n378 n379 => rfl), ⟨(fun h0 => by first | (exfalso; omega) | exact ⟨by omega, fun h1 => by first | (exfalso; omega)⟩), trivial⟩⟩
        · skip
          refine pe_aload_n (j := 0) (by decide +kernel) rfl ?_
          refine pe_iconstv (n := 3) (v := 3) (by decide +kernel) (by decide +kernel) ?_
          refine pe_aload_n (j := 0) (by decide +kernel) rfl ?_
          refine pe_get (j := 69) (ci := 4) (n := 7) (by decide +kernel) (by decide +kernel) cd_o23 rfl ?_
          refine pi_V (j := 75) (mj := 46) (by decide +kernel) (cll_V (args := [.int (f 375), .int 3]) (n := 2) (by decide +kernel) rfl rfl cd_o23 (by decide +kernel) (Nat.le_of_ble_eq_true rfl) (Nat.le_of_ble_eq_true rfl)) ?_
          show pmE pg X pg_tyl pg_cl (d) 46 0 [.ref 23, .int 3, .int (f 375)] [] (cd f A R wr) _
          refine pe_aload_n (j := 0) (by decide +kernel) rfl ?_
          refine pe_get (j := 53) (ci := 4) (n := 10) (by decide +kernel) (by decide +kernel) cd_o23 rfl ?_
          refine pz_if_ne (off := 13) (t := 17) (by decide +kernel) (by decide) rfl rfl (fun h43 => ?_) (fun h43 => by omega)
          refine pe_vret (by decide +kernel) rfl ⟨rfl, rfl, ?_⟩
          show pmE pg X pg_tyl pg_cl (d + 1) 47 67 [.ref 23, .int x1, .int x2, .int z36] [] (cd f A R wr) _
          exact pe_vret (by decide +kernel) rfl ⟨f, rfl, hI, (fun k n378 n379 => rfl), ⟨(fun h0 => by first | (exfalso; omega) | exact ⟨by omega, fun h1 => by first | (exfalso; omega)⟩), trivial⟩⟩
      · skip
        refine pe_aload_n (j := 0) (by decide +kernel) rfl ?_
        refine pe_iload_n (j := 1) (by decide +kernel) rfl ?_
        refine cz_put378 (jj := 53) (by decide +kernel) (by decide +kernel) hI (fun f44 ef44 hIf44 => ?_)
        refine pe_aload_n (j := 0) (by decide +kernel) rfl ?_
        refine pe_iload_n (j := 2) (by decide +kernel) rfl ?_
        refine cz_put379 (jj := 56) (by decide +kernel) (by decide +kernel) hIf44 (fun f45 ef45 hIf45 => ?_)
        refine pe_vret (by decide +kernel) rfl ⟨rfl, rfl, ?_⟩
        show pmE pg X pg_tyl pg_cl (d + 1) 47 52 [.ref 23, .int x1, .int x2, .int z36] [] (cd f45 A R wr) _
        refine pe_iload_n (j := 2) (by decide +kernel) rfl ?_
        refine pe_bipushv (n := 8) (v := 8) (by decide +kernel) (by decide +kernel) ?_
        refine pz_icmp_lt (off := 12) (t := 67) (by decide +kernel) (by decide) rfl rfl kz_8 (fun h46 => ?_) (fun h46 => ?_)
        · skip
          have hx47 : (f45 378).toInt = 2 := (congrArg Int32.toInt (show f45 378 = 2 from (upf_fr ef45 (by decide)).trans (upf_at ef44))).trans kz_2
          exact pe_vret (by decide +kernel) rfl ⟨f45, rfl, hIf45, (fun k n378 n379 => (upf_fr ef45 n379).trans (upf_fr ef44 n378)), ⟨(fun h0 => by first | (exfalso; omega) | exact ⟨by omega, fun h1 => by first | (exfalso; omega)⟩), trivial⟩⟩
        · skip
          refine pe_aload_n (j := 0) (by decide +kernel) rfl ?_
          refine pe_iconstv (n := 3) (v := 3) (by decide +kernel) (by decide +kernel) ?_
          refine pe_aload_n (j := 0) (by decide +kernel) rfl ?_
          refine pe_get (j := 69) (ci := 4) (n := 7) (by decide +kernel) (by decide +kernel) cd_o23 rfl ?_
          refine pe_top (v := (f 375)) ((upf_fr ef45 (by decide)).trans (upf_fr ef44 (by decide))) ?_
          refine pi_V (j := 75) (mj := 46) (by decide +kernel) (cll_V (args := [.int (f 375), .int 3]) (n := 2) (by decide +kernel) rfl rfl cd_o23 (by decide +kernel) (Nat.le_of_ble_eq_true rfl) (Nat.le_of_ble_eq_true rfl)) ?_
          show pmE pg X pg_tyl pg_cl (d) 46 0 [.ref 23, .int 3, .int (f 375)] [] (cd f45 A R wr) _
          refine pe_aload_n (j := 0) (by decide +kernel) rfl ?_
          refine pe_get (j := 53) (ci := 4) (n := 10) (by decide +kernel) (by decide +kernel) cd_o23 rfl ?_
          refine pe_top (v := 2) ((upf_fr ef45 (by decide)).trans (upf_at ef44)) ?_
          refine pz_if_ne (off := 13) (t := 17) (by decide +kernel) (by decide) rfl kz_2 (fun h48 => ?_) (fun h48 => by omega)
          refine pe_vret (by decide +kernel) rfl ⟨rfl, rfl, ?_⟩
          show pmE pg X pg_tyl pg_cl (d + 1) 47 67 [.ref 23, .int x1, .int x2, .int z36] [] (cd f45 A R wr) _
          have hx49 : (f45 378).toInt = 2 := (congrArg Int32.toInt (show f45 378 = 2 from (upf_fr ef45 (by decide)).trans (upf_at ef44))).trans kz_2
          exact pe_vret (by decide +kernel) rfl ⟨f45, rfl, hIf45, (fun k n378 n379 => (upf_fr ef45 n379).trans (upf_fr ef44 n378)), ⟨(fun h0 => by first | (exfalso; omega) | exact ⟨by omega, fun h1 => by first | (exfalso; omega)⟩), trivial⟩⟩
    · skip
      refine pe_aload_n (j := 0) (by decide +kernel) rfl ?_
      refine pe_get (j := 92) (ci := 4) (n := 8) (by decide +kernel) (by decide +kernel) cd_o23 rfl ?_
      refine pe_getstatic (j := 110) (v := .retAddr 3) (by decide +kernel) (by decide +kernel) ?_
      refine pe_iload_n (j := 3) (by decide +kernel) rfl ?_
      refine pz_ialdX (n := 52) (by decide +kernel) (hX 3 (by decide +kernel)) rfl hz36 (by omega) (by omega) (fun v50 ev50 => ?_)
      have rv50 : 0 ≤ v50.toInt ∧ v50.toInt ≤ 100 := by rw [ev50]; exact lt_all (by decide +kernel) (by decide) _
      refine pz_icmp_gt (off := 12) (t := 43) (by decide +kernel) (by decide) rfl rfl rfl (fun h51 => ?_) (fun h51 => ?_)
      · skip
        refine pe_aload_n (j := 0) (by decide +kernel) rfl ?_
        refine pe_iconstv (n := 2) (v := 2) (by decide +kernel) (by decide +kernel) ?_
        refine pe_aload_n (j := 0) (by decide +kernel) rfl ?_
        refine pe_get (j := 69) (ci := 4) (n := 7) (by decide +kernel) (by decide +kernel) cd_o23 rfl ?_
        have hr_f_375 := cf_375 hI
        refine pi_V (j := 75) (mj := 46) (by decide +kernel) (cll_V (args := [.int (f 375), .int 2]) (n := 2) (by decide +kernel) rfl rfl cd_o23 (by decide +kernel) (Nat.le_of_ble_eq_true rfl) (Nat.le_of_ble_eq_true rfl)) ?_
        show pmE pg X pg_tyl pg_cl (d) 46 0 [.ref 23, .int 2, .int (f 375)] [] (cd f A R wr) _
        refine pe_aload_n (j := 0) (by decide +kernel) rfl ?_
        refine pe_get (j := 53) (ci := 4) (n := 10) (by decide +kernel) (by decide +kernel) cd_o23 rfl ?_
        have lw53 := zi_lo (f 378)
        have uw53 := zi_hi (f 378)
        refine pz_if_ne (off := 13) (t := 17) (by decide +kernel) (by decide) rfl rfl (fun h52 => ?_) (fun h52 => ?_)
        · skip
          refine pe_vret (by decide +kernel) rfl ⟨rfl, rfl, ?_⟩
          show pmE pg X pg_tyl pg_cl (d + 1) 47 52 [.ref 23, .int x1, .int x2, .int z36] [] (cd f A R wr) _
          refine pe_iload_n (j := 2) (by decide +kernel) rfl ?_
          refine pe_bipushv (n := 8) (v := 8) (by decide +kernel) (by decide +kernel) ?_
          refine pz_icmp_lt (off := 12) (t := 67) (by decide +kernel) (by decide) rfl rfl kz_8 (fun h54 => ?_) (fun h54 => ?_)
          · skip
            exact pe_vret (by decide +kernel) rfl ⟨f, rfl, hI, (fun k n378 n379 => rfl), ⟨(fun h0 => by first | (exfalso; omega) | exact ⟨by omega, fun h1 => by first | (exfalso; omega) | (have e1 : lo2 x1.toInt x2.toInt = v37.toInt := congrArg Int32.toInt ev37.symm; have e2 : hi2 x1.toInt x2.toInt = v50.toInt := congrArg Int32.toInt ev50.symm; omega)⟩), trivial⟩⟩
          · skip
            refine pe_aload_n (j := 0) (by decide +kernel) rfl ?_
            refine pe_iconstv (n := 3) (v := 3) (by decide +kernel) (by decide +kernel) ?_
            refine pe_aload_n (j := 0) (by decide +kernel) rfl ?_
            refine pe_get (j := 69) (ci := 4) (n := 7) (by decide +kernel) (by decide +kernel) cd_o23 rfl ?_
            refine pi_V (j := 75) (mj := 46) (by decide +kernel) (cll_V (args := [.int (f 375), .int 3]) (n := 2) (by decide +kernel) rfl rfl cd_o23 (by decide +kernel) (Nat.le_of_ble_eq_true rfl) (Nat.le_of_ble_eq_true rfl)) ?_
            show pmE pg X pg_tyl pg_cl (d) 46 0 [.ref 23, .int 3, .int (f 375)] [] (cd f A R wr) _
            refine pe_aload_n (j := 0) (by decide +kernel) rfl ?_
            refine pe_get (j := 53) (ci := 4) (n := 10) (by decide +kernel) (by decide +kernel) cd_o23 rfl ?_
            refine pz_if_ne (off := 13) (t := 17) (by decide +kernel) (by decide) rfl rfl (fun h55 => ?_) (fun h55 => by omega)
            refine pe_vret (by decide +kernel) rfl ⟨rfl, rfl, ?_⟩
            show pmE pg X pg_tyl pg_cl (d + 1) 47 67 [.ref 23, .int x1, .int x2, .int z36] [] (cd f A R wr) _
            exact pe_vret (by decide +kernel) rfl ⟨f, rfl, hI, (fun k n378 n379 => rfl), ⟨(fun h0 => by first | (exfalso; omega) | exact ⟨by omega, fun h1 => by first | (exfalso; omega) | (have e1 : lo2 x1.toInt x2.toInt = v37.toInt := congrArg Int32.toInt ev37.symm; have e2 : hi2 x1.toInt x2.toInt = v50.toInt := congrArg Int32.toInt ev50.symm; omega)⟩), trivial⟩⟩
        · skip
          refine pe_aload_n (j := 0) (by decide +kernel) rfl ?_
          refine pe_iload_n (j := 1) (by decide +kernel) rfl ?_
          refine cz_put378 (jj := 53) (by decide +kernel) (by decide +kernel) hI (fun f56 ef56 hIf56 => ?_)
          refine pe_aload_n (j := 0) (by decide +kernel) rfl ?_
          refine pe_iload_n (j := 2) (by decide +kernel) rfl ?_
          refine cz_put379 (jj := 56) (by decide +kernel) (by decide +kernel) hIf56 (fun f57 ef57 hIf57 => ?_)
          refine pe_vret (by decide +kernel) rfl ⟨rfl, rfl, ?_⟩
          show pmE pg X pg_tyl pg_cl (d + 1) 47 52 [.ref 23, .int x1, .int x2, .int z36] [] (cd f57 A R wr) _
          refine pe_iload_n (j := 2) (by decide +kernel) rfl ?_
          refine pe_bipushv (n := 8) (v := 8) (by decide +kernel) (by decide +kernel) ?_
          refine pz_icmp_lt (off := 12) (t := 67) (by decide +kernel) (by decide) rfl rfl kz_8 (fun h58 => ?_) (fun h58 => ?_)
          · skip
            have hx59 : (f57 378).toInt = 2 := (congrArg Int32.toInt (show f57 378 = 2 from (upf_fr ef57 (by decide)).trans (upf_at ef56))).trans kz_2
            exact pe_vret (by decide +kernel) rfl ⟨f57, rfl, hIf57, (fun k n378 n379 => (upf_fr ef57 n379).trans (upf_fr ef56 n378)), ⟨(fun h0 => by first | (exfalso; omega) | exact ⟨by omega, fun h1 => by first | (exfalso; omega) | (have e1 : lo2 x1.toInt x2.toInt = v37.toInt := congrArg Int32.toInt ev37.symm; have e2 : hi2 x1.toInt x2.toInt = v50.toInt := congrArg Int32.toInt ev50.symm; omega)⟩), trivial⟩⟩
          · skip
            refine pe_aload_n (j := 0) (by decide +kernel) rfl ?_
            refine pe_iconstv (n := 3) (v := 3) (by decide +kernel) (by decide +kernel) ?_
            refine pe_aload_n (j := 0) (by decide +kernel) rfl ?_
            refine pe_get (j := 69) (ci := 4) (n := 7) (by decide +kernel) (by decide +kernel) cd_o23 rfl ?_
            refine pe_top (v := (f 375)) ((upf_fr ef57 (by decide)).trans (upf_fr ef56 (by decide))) ?_
            refine pi_V (j := 75) (mj := 46) (by decide +kernel) (cll_V (args := [.int (f 375), .int 3]) (n := 2) (by decide +kernel) rfl rfl cd_o23 (by decide +kernel) (Nat.le_of_ble_eq_true rfl) (Nat.le_of_ble_eq_true rfl)) ?_
            show pmE pg X pg_tyl pg_cl (d) 46 0 [.ref 23, .int 3, .int (f 375)] [] (cd f57 A R wr) _
            refine pe_aload_n (j := 0) (by decide +kernel) rfl ?_
            refine pe_get (j := 53) (ci := 4) (n := 10) (by decide +kernel) (by decide +kernel) cd_o23 rfl ?_
            refine pe_top (v := 2) ((upf_fr ef57 (by decide)).trans (upf_at ef56)) ?_
            refine pz_if_ne (off := 13) (t := 17) (by decide +kernel) (by decide) rfl kz_2 (fun h60 => ?_) (fun h60 => by omega)
            refine pe_vret (by decide +kernel) rfl ⟨rfl, rfl, ?_⟩
            show pmE pg X pg_tyl pg_cl (d + 1) 47 67 [.ref 23, .int x1, .int x2, .int z36] [] (cd f57 A R wr) _
            have hx61 : (f57 378).toInt = 2 := (congrArg Int32.toInt (show f57 378 = 2 from (upf_fr ef57 (by decide)).trans (upf_at ef56))).trans kz_2
            exact pe_vret (by decide +kernel) rfl ⟨f57, rfl, hIf57, (fun k n378 n379 => (upf_fr ef57 n379).trans (upf_fr ef56 n378)), ⟨(fun h0 => by first | (exfalso; omega) | exact ⟨by omega, fun h1 => by first | (exfalso; omega) | (have e1 : lo2 x1.toInt x2.toInt = v37.toInt := congrArg Int32.toInt ev37.symm; have e2 : hi2 x1.toInt x2.toInt = v50.toInt := congrArg Int32.toInt ev50.symm; omega)⟩), trivial⟩⟩
      · skip
        refine pe_aload_n (j := 0) (by decide +kernel) rfl ?_
        refine pe_iload_n (j := 1) (by decide +kernel) rfl ?_
        refine pe_iload_n (j := 2) (by decide +kernel) rfl ?_
        refine pz_callV (j := 113) (mj := 48) (by decide +kernel) (cll_V (args := [.int x2, .int x1]) (n := 2) (by decide +kernel) rfl rfl cd_o23 (by decide +kernel) (Nat.le_of_ble_eq_true rfl) (Nat.le_of_ble_eq_true rfl)) (CM_48 hX hI (by omega) (by omega)) (fun q62a q62b q62c q62d hqq62 => ?_)
        obtain ⟨rq62, eq62, kq62⟩ := hqq62
        cases eq62
        refine ⟨rfl, rfl, ?_⟩
        rcases kq62 with kq62 | kq62
        · skip
          obtain ⟨erq62, kq62⟩ := kq62
          subst erq62
          show pmE pg X pg_tyl pg_cl (d + 1) 47 40 [.ref 23, .int x1, .int x2, .int z36] [.int 0] (cd f A R wr) _
          refine pz_if_eq (off := 12) (t := 52) (by decide +kernel) (by decide) rfl kz_0 (fun h63 => ?_) (fun h63 => by omega)
          refine pe_iload_n (j := 2) (by decide +kernel) rfl ?_
          refine pe_bipushv (n := 8) (v := 8) (by decide +kernel) (by decide +kernel) ?_
          refine pz_icmp_lt (off := 12) (t := 67) (by decide +kernel) (by decide) rfl rfl kz_8 (fun h64 => ?_) (fun h64 => ?_)
          · skip
            exact pe_vret (by decide +kernel) rfl ⟨f, rfl, hI, (fun k n378 n379 => rfl), ⟨(fun h0 => by first | (exfalso; omega) | exact ⟨by omega, fun h1 => by first | (exfalso; omega) | (have e1 : lo2 x1.toInt x2.toInt = v37.toInt := congrArg Int32.toInt ev37.symm; have e2 : hi2 x1.toInt x2.toInt = v50.toInt := congrArg Int32.toInt ev50.symm; omega)⟩), trivial⟩⟩
          · skip
            refine pe_aload_n (j := 0) (by decide +kernel) rfl ?_
            refine pe_iconstv (n := 3) (v := 3) (by decide +kernel) (by decide +kernel) ?_
            refine pe_aload_n (j := 0) (by decide +kernel) rfl ?_
            refine pe_get (j := 69) (ci := 4) (n := 7) (by decide +kernel) (by decide +kernel) cd_o23 rfl ?_
            have hr_f_375 := cf_375 hI
            refine pi_V (j := 75) (mj := 46) (by decide +kernel) (cll_V (args := [.int (f 375), .int 3]) (n := 2) (by decide +kernel) rfl rfl cd_o23 (by decide +kernel) (Nat.le_of_ble_eq_true rfl) (Nat.le_of_ble_eq_true rfl)) ?_
            show pmE pg X pg_tyl pg_cl (d) 46 0 [.ref 23, .int 3, .int (f 375)] [] (cd f A R wr) _
            refine pe_aload_n (j := 0) (by decide +kernel) rfl ?_
            refine pe_get (j := 53) (ci := 4) (n := 10) (by decide +kernel) (by decide +kernel) cd_o23 rfl ?_
            have lw66 := zi_lo (f 378)
            have uw66 := zi_hi (f 378)
            refine pz_if_ne (off := 13) (t := 17) (by decide +kernel) (by decide) rfl rfl (fun h65 => ?_) (fun h65 => ?_)
            · skip
              refine pe_vret (by decide +kernel) rfl ⟨rfl, rfl, ?_⟩
              show pmE pg X pg_tyl pg_cl (d + 1) 47 67 [.ref 23, .int x1, .int x2, .int z36] [] (cd f A R wr) _
              exact pe_vret (by decide +kernel) rfl ⟨f, rfl, hI, (fun k n378 n379 => rfl), ⟨(fun h0 => by first | (exfalso; omega) | exact ⟨by omega, fun h1 => by first | (exfalso; omega) | (have e1 : lo2 x1.toInt x2.toInt = v37.toInt := congrArg Int32.toInt ev37.symm; have e2 : hi2 x1.toInt x2.toInt = v50.toInt := congrArg Int32.toInt ev50.symm; omega)⟩), trivial⟩⟩
            · skip
              refine pe_aload_n (j := 0) (by decide +kernel) rfl ?_
              refine pe_iload_n (j := 1) (by decide +kernel) rfl ?_
              refine cz_put378 (jj := 53) (by decide +kernel) (by decide +kernel) hI (fun f67 ef67 hIf67 => ?_)
              refine pe_aload_n (j := 0) (by decide +kernel) rfl ?_
              refine pe_iload_n (j := 2) (by decide +kernel) rfl ?_
              refine cz_put379 (jj := 56) (by decide +kernel) (by decide +kernel) hIf67 (fun f68 ef68 hIf68 => ?_)
              refine pe_vret (by decide +kernel) rfl ⟨rfl, rfl, ?_⟩
              show pmE pg X pg_tyl pg_cl (d + 1) 47 67 [.ref 23, .int x1, .int x2, .int z36] [] (cd f68 A R wr) _
              have hx69 : (f68 378).toInt = 3 := (congrArg Int32.toInt (show f68 378 = 3 from (upf_fr ef68 (by decide)).trans (upf_at ef67))).trans kz_3
              exact pe_vret (by decide +kernel) rfl ⟨f68, rfl, hIf68, (fun k n378 n379 => (upf_fr ef68 n379).trans (upf_fr ef67 n378)), ⟨(fun h0 => by first | (exfalso; omega) | exact ⟨by omega, fun h1 => by first | (exfalso; omega) | (have e1 : lo2 x1.toInt x2.toInt = v37.toInt := congrArg Int32.toInt ev37.symm; have e2 : hi2 x1.toInt x2.toInt = v50.toInt := congrArg Int32.toInt ev50.symm; omega)⟩), trivial⟩⟩
        · skip
          obtain ⟨erq62, kq62⟩ := kq62
          subst erq62
          show pmE pg X pg_tyl pg_cl (d + 1) 47 40 [.ref 23, .int x1, .int x2, .int z36] [.int 1] (cd f A R wr) _
          refine pz_if_eq (off := 12) (t := 52) (by decide +kernel) (by decide) rfl kz_1 (fun h70 => by omega) (fun h70 => ?_)
          refine pe_aload_n (j := 0) (by decide +kernel) rfl ?_
          refine pe_iconstv (n := 2) (v := 2) (by decide +kernel) (by decide +kernel) ?_
          refine pe_aload_n (j := 0) (by decide +kernel) rfl ?_
          refine pe_get (j := 69) (ci := 4) (n := 7) (by decide +kernel) (by decide +kernel) cd_o23 rfl ?_
          have hr_f_375 := cf_375 hI
          refine pi_V (j := 75) (mj := 46) (by decide +kernel) (cll_V (args := [.int (f 375), .int 2]) (n := 2) (by decide +kernel) rfl rfl cd_o23 (by decide +kernel) (Nat.le_of_ble_eq_true rfl) (Nat.le_of_ble_eq_true rfl)) ?_
          show pmE pg X pg_tyl pg_cl (d) 46 0 [.ref 23, .int 2, .int (f 375)] [] (cd f A R wr) _
          refine pe_aload_n (j := 0) (by decide +kernel) rfl ?_
          refine pe_get (j := 53) (ci := 4) (n := 10) (by decide +kernel) (by decide +kernel) cd_o23 rfl ?_
          have lw72 := zi_lo (f 378)
          have uw72 := zi_hi (f 378)
          refine pz_if_ne (off := 13) (t := 17) (by decide +kernel) (by decide) rfl rfl (fun h71 => ?_) (fun h71 => ?_)
          · skip
            refine pe_vret (by decide +kernel) rfl ⟨rfl, rfl, ?_⟩
            show pmE pg X pg_tyl pg_cl (d + 1) 47 52 [.ref 23, .int x1, .int x2, .int z36] [] (cd f A R wr) _
            refine pe_iload_n (j := 2) (by decide +kernel) rfl ?_
            refine pe_bipushv (n := 8) (v := 8) (by decide +kernel) (by decide +kernel) ?_
            refine pz_icmp_lt (off := 12) (t := 67) (by decide +kernel) (by decide) rfl rfl kz_8 (fun h73 => ?_) (fun h73 => ?_)
            · skip
              exact pe_vret (by decide +kernel) rfl ⟨f, rfl, hI, (fun k n378 n379 => rfl), ⟨(fun h0 => by first | (exfalso; omega) | exact ⟨by omega, fun h1 => by first | (exfalso; omega) | (have e1 : lo2 x1.toInt x2.toInt = v37.toInt := congrArg Int32.toInt ev37.symm; have e2 : hi2 x1.toInt x2.toInt = v50.toInt := congrArg Int32.toInt ev50.symm; omega)⟩), trivial⟩⟩
            · skip
              refine pe_aload_n (j := 0) (by decide +kernel) rfl ?_
              refine pe_iconstv (n := 3) (v := 3) (by decide +kernel) (by decide +kernel) ?_
              refine pe_aload_n (j := 0) (by decide +kernel) rfl ?_
              refine pe_get (j := 69) (ci := 4) (n := 7) (by decide +kernel) (by decide +kernel) cd_o23 rfl ?_
              refine pi_V (j := 75) (mj := 46) (by decide +kernel) (cll_V (args := [.int (f 375), .int 3]) (n := 2) (by decide +kernel) rfl rfl cd_o23 (by decide +kernel) (Nat.le_of_ble_eq_true rfl) (Nat.le_of_ble_eq_true rfl)) ?_
              show pmE pg X pg_tyl pg_cl (d) 46 0 [.ref 23, .int 3, .int (f 375)] [] (cd f A R wr) _
              refine pe_aload_n (j := 0) (by decide +kernel) rfl ?_
              refine pe_get (j := 53) (ci := 4) (n := 10) (by decide +kernel) (by decide +kernel) cd_o23 rfl ?_
              refine pz_if_ne (off := 13) (t := 17) (by decide +kernel) (by decide) rfl rfl (fun h74 => ?_) (fun h74 => by omega)
              refine pe_vret (by decide +kernel) rfl ⟨rfl, rfl, ?_⟩
              show pmE pg X pg_tyl pg_cl (d + 1) 47 67 [.ref 23, .int x1, .int x2, .int z36] [] (cd f A R wr) _
              exact pe_vret (by decide +kernel) rfl ⟨f, rfl, hI, (fun k n378 n379 => rfl), ⟨(fun h0 => by first | (exfalso; omega) | exact ⟨by omega, fun h1 => by first | (exfalso; omega) | (have e1 : lo2 x1.toInt x2.toInt = v37.toInt := congrArg Int32.toInt ev37.symm; have e2 : hi2 x1.toInt x2.toInt = v50.toInt := congrArg Int32.toInt ev50.symm; omega)⟩), trivial⟩⟩
          · skip
            refine pe_aload_n (j := 0) (by decide +kernel) rfl ?_
            refine pe_iload_n (j := 1) (by decide +kernel) rfl ?_
            refine cz_put378 (jj := 53) (by decide +kernel) (by decide +kernel) hI (fun f75 ef75 hIf75 => ?_)
            refine pe_aload_n (j := 0) (by decide +kernel) rfl ?_
            refine pe_iload_n (j := 2) (by decide +kernel) rfl ?_
            refine cz_put379 (jj := 56) (by decide +kernel) (by decide +kernel) hIf75 (fun f76 ef76 hIf76 => ?_)
            refine pe_vret (by decide +kernel) rfl ⟨rfl, rfl, ?_⟩
            show pmE pg X pg_tyl pg_cl (d + 1) 47 52 [.ref 23, .int x1, .int x2, .int z36] [] (cd f76 A R wr) _
            refine pe_iload_n (j := 2) (by decide +kernel) rfl ?_
            refine pe_bipushv (n := 8) (v := 8) (by decide +kernel) (by decide +kernel) ?_
            refine pz_icmp_lt (off := 12) (t := 67) (by decide +kernel) (by decide) rfl rfl kz_8 (fun h77 => ?_) (fun h77 => ?_)
            · skip
              have hx78 : (f76 378).toInt = 2 := (congrArg Int32.toInt (show f76 378 = 2 from (upf_fr ef76 (by decide)).trans (upf_at ef75))).trans kz_2
              exact pe_vret (by decide +kernel) rfl ⟨f76, rfl, hIf76, (fun k n378 n379 => (upf_fr ef76 n379).trans (upf_fr ef75 n378)), ⟨(fun h0 => by first | (exfalso; omega) | exact ⟨by omega, fun h1 => by first | (exfalso; omega) | (have e1 : lo2 x1.toInt x2.toInt = v37.toInt := congrArg Int32.toInt ev37.symm; have e2 : hi2 x1.toInt x2.toInt = v50.toInt := congrArg Int32.toInt ev50.symm; omega)⟩), trivial⟩⟩
            · skip
              refine pe_aload_n (j := 0) (by decide +kernel) rfl ?_
              refine pe_iconstv (n := 3) (v := 3) (by decide +kernel) (by decide +kernel) ?_
              refine pe_aload_n (j := 0) (by decide +kernel) rfl ?_
              refine pe_get (j := 69) (ci := 4) (n := 7) (by decide +kernel) (by decide +kernel) cd_o23 rfl ?_
              refine pe_top (v := (f 375)) ((upf_fr ef76 (by decide)).trans (upf_fr ef75 (by decide))) ?_
              refine pi_V (j := 75) (mj := 46) (by decide +kernel) (cll_V (args := [.int (f 375), .int 3]) (n := 2) (by decide +kernel) rfl rfl cd_o23 (by decide +kernel) (Nat.le_of_ble_eq_true rfl) (Nat.le_of_ble_eq_true rfl)) ?_
              show pmE pg X pg_tyl pg_cl (d) 46 0 [.ref 23, .int 3, .int (f 375)] [] (cd f76 A R wr) _
              refine pe_aload_n (j := 0) (by decide +kernel) rfl ?_
              refine pe_get (j := 53) (ci := 4) (n := 10) (by decide +kernel) (by decide +kernel) cd_o23 rfl ?_
              refine pe_top (v := 2) ((upf_fr ef76 (by decide)).trans (upf_at ef75)) ?_
              refine pz_if_ne (off := 13) (t := 17) (by decide +kernel) (by decide) rfl kz_2 (fun h79 => ?_) (fun h79 => by omega)
              refine pe_vret (by decide +kernel) rfl ⟨rfl, rfl, ?_⟩
              show pmE pg X pg_tyl pg_cl (d + 1) 47 67 [.ref 23, .int x1, .int x2, .int z36] [] (cd f76 A R wr) _
              have hx80 : (f76 378).toInt = 2 := (congrArg Int32.toInt (show f76 378 = 2 from (upf_fr ef76 (by decide)).trans (upf_at ef75))).trans kz_2
              exact pe_vret (by decide +kernel) rfl ⟨f76, rfl, hIf76, (fun k n378 n379 => (upf_fr ef76 n379).trans (upf_fr ef75 n378)), ⟨(fun h0 => by first | (exfalso; omega) | exact ⟨by omega, fun h1 => by first | (exfalso; omega) | (have e1 : lo2 x1.toInt x2.toInt = v37.toInt := congrArg Int32.toInt ev37.symm; have e2 : hi2 x1.toInt x2.toInt = v50.toInt := congrArg Int32.toInt ev50.symm; omega)⟩), trivial⟩⟩
