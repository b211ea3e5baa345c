set_option maxRecDepth 100000 in
set_option maxHeartbeats 8000000 in
theorem CL_23_86 {X : pm_X} {d : Nat} {wr : pm_W} {Q : pm_R → Prop} {f0 : Nat → Int32} {A : Nat → List Int32} {R : Nat → Value} {x1 : Int32} (hX : XO X) (hR4 : R 4 = .ref 4) (gx1 : (97 ≤ x1.toInt ∧ x1.toInt ≤ 122)) (k_163_0 : ∀ (f' : Nat → Int32), CI f' A R → (∀ k : Nat, k ≠ 373 → f' k = f0 k) → pmE pg X pg_tyl pg_cl (d + 2) 23 163 [.ref 23, .int x1] [] (cd f' A R wr) Q) : ∀ (m : Nat) (f : Nat → Int32), CI f A R → (∀ k : Nat, k ≠ 373 → f k = f0 k) → 600 - (f 373).toInt < (m : Int) → pmE pg X pg_tyl pg_cl (d + 2) 23 86 [.ref 23, .int x1] [] (cd f A R wr) Q := by
  intro m
  induction m with
  | zero =>
    intro f hI hG hm
    exfalso
    have h := cf_373 hI
    omega
  | succ m ih =>
    intro f hI hG hm
    refine pe_aload_n (j := 0) (by decide +kernel) rfl ?_
    refine pe_get (j := 47) (ci := 4) (n := 5) (by decide +kernel) (by decide +kernel) cd_o23 rfl ?_
    have hr_f_373 := cf_373 hI
    refine pe_aload_n (j := 0) (by decide +kernel) rfl ?_
    refine pe_get (j := 43) (ci := 4) (n := 4) (by decide +kernel) (by decide +kernel) cd_o23 rfl ?_
    have hr_f_372 := cf_372 hI
    refine pz_icmp_ge (off := 69) (t := 163) (by decide +kernel) (by decide) rfl rfl rfl (fun h1 => ?_) (fun h1 => ?_)
    · skip
      exact k_163_0 f hI (fun k n373 => (hG k n373))
    · skip
      refine pe_aload_n (j := 0) (by decide +kernel) rfl ?_
      refine pe_aload_n (j := 0) (by decide +kernel) rfl ?_
      refine pe_get (j := 47) (ci := 4) (n := 5) (by decide +kernel) (by decide +kernel) cd_o23 rfl ?_
      refine pi_V (j := 184) (mj := 24) (by decide +kernel) (cll_V (args := [.int (f 373)]) (n := 1) (by decide +kernel) rfl rfl cd_o23 (by decide +kernel) (Nat.le_of_ble_eq_true rfl) (Nat.le_of_ble_eq_true rfl)) ?_
      show pmE pg X pg_tyl pg_cl (d + 1) 24 0 [.ref 23, .int (f 373)] [] (cd f A R wr) _
      refine pe_iload_n (j := 1) (by decide +kernel) rfl ?_
      refine pz_if_lt (off := 20) (t := 21) (by decide +kernel) (by decide) rfl rfl (fun h2 => by omega) (fun h2 => ?_)
      refine pe_iload_n (j := 1) (by decide +kernel) rfl ?_
      refine pe_aload_n (j := 0) (by decide +kernel) rfl ?_
      refine pe_get (j := 43) (ci := 4) (n := 4) (by decide +kernel) (by decide +kernel) cd_o23 rfl ?_
      refine pz_icmp_ge (off := 12) (t := 21) (by decide +kernel) (by decide) rfl rfl rfl (fun h3 => ?_) (fun h3 => ?_)
      · skip
        refine pe_iconstv (n := (-1)) (v := (-1)) (by decide +kernel) (by decide +kernel) ?_
        refine pe_iret (by decide +kernel) rfl rfl ⟨rfl, rfl, ?_⟩
        show pmE pg X pg_tyl pg_cl (d + 2) 23 105 [.ref 23, .int x1] [.int (-1)] (cd f A R wr) _
        refine pi_S (j := 194) (mj := 26) (by decide +kernel) (by decide +kernel) rfl ?_
        show pmE pg X pg_tyl pg_cl (d + 1) 26 0 [.int (-1)] [] (cd f A R wr) _
        refine pe_iload_n (j := 0) (by decide +kernel) rfl ?_
        refine pe_bipushv (n := 97) (v := 97) (by decide +kernel) (by decide +kernel) ?_
        refine pz_icmp_lt (off := 13) (t := 16) (by decide +kernel) (by decide) rfl kz_m1 kz_97 (fun h4 => ?_) (fun h4 => by omega)
        refine pe_iconstv (n := 0) (v := 0) (by decide +kernel) (by decide +kernel) ?_
        refine pe_iret (by decide +kernel) rfl rfl ⟨rfl, rfl, ?_⟩
        show pmE pg X pg_tyl pg_cl (d + 2) 23 108 [.ref 23, .int x1] [.int 0] (cd f A R wr) _
        refine pz_if_eq (off := 55) (t := 163) (by decide +kernel) (by decide) rfl kz_0 (fun h5 => ?_) (fun h5 => by omega)
        exact k_163_0 f hI (fun k n373 => (hG k n373))
      · skip
        refine pe_aload_n (j := 0) (by decide +kernel) rfl ?_
        refine pe_get (j := 29) (ci := 4) (n := 3) (by decide +kernel) (by decide +kernel) cd_o23 rfl ?_
        refine pe_topV (v := .ref 4) (hR4) ?_
        refine pe_iload_n (j := 1) (by decide +kernel) rfl ?_
        refine pz_bald (by decide +kernel) cd_a4 (cl_4 hI) rfl (by omega) (by omega) (fun v6 ev6 => ?_)
        have rv6 : (-128) ≤ v6.toInt ∧ v6.toInt ≤ 127 := ct_4 hI ev6
        refine pe_goto (off := 4) (t := 22) (by decide +kernel) (by decide) rfl ?_
        refine pe_iret (by decide +kernel) rfl rfl ⟨rfl, rfl, ?_⟩
        show pmE pg X pg_tyl pg_cl (d + 2) 23 105 [.ref 23, .int x1] [.int v6] (cd f A R wr) _
        refine pi_S (j := 194) (mj := 26) (by decide +kernel) (by decide +kernel) rfl ?_
        show pmE pg X pg_tyl pg_cl (d + 1) 26 0 [.int v6] [] (cd f A R wr) _
        refine pe_iload_n (j := 0) (by decide +kernel) rfl ?_
        refine pe_bipushv (n := 97) (v := 97) (by decide +kernel) (by decide +kernel) ?_
        refine pz_icmp_lt (off := 13) (t := 16) (by decide +kernel) (by decide) rfl rfl kz_97 (fun h7 => ?_) (fun h7 => ?_)
        · skip
          refine pe_iconstv (n := 0) (v := 0) (by decide +kernel) (by decide +kernel) ?_
          refine pe_iret (by decide +kernel) rfl rfl ⟨rfl, rfl, ?_⟩
          show pmE pg X pg_tyl pg_cl (d + 2) 23 108 [.ref 23, .int x1] [.int 0] (cd f A R wr) _
          refine pz_if_eq (off := 55) (t := 163) (by decide +kernel) (by decide) rfl kz_0 (fun h8 => ?_) (fun h8 => by omega)
          exact k_163_0 f hI (fun k n373 => (hG k n373))
        · skip
          refine pe_iload_n (j := 0) (by decide +kernel) rfl ?_
          refine pe_bipushv (n := 122) (v := 122) (by decide +kernel) (by decide +kernel) ?_
          refine pz_icmp_gt (off := 7) (t := 16) (by decide +kernel) (by decide) rfl rfl kz_122 (fun h9 => ?_) (fun h9 => ?_)
          · skip
            refine pe_iconstv (n := 0) (v := 0) (by decide +kernel) (by decide +kernel) ?_
            refine pe_iret (by decide +kernel) rfl rfl ⟨rfl, rfl, ?_⟩
            show pmE pg X pg_tyl pg_cl (d + 2) 23 108 [.ref 23, .int x1] [.int 0] (cd f A R wr) _
            refine pz_if_eq (off := 55) (t := 163) (by decide +kernel) (by decide) rfl kz_0 (fun h10 => ?_) (fun h10 => by omega)
            exact k_163_0 f hI (fun k n373 => (hG k n373))
          · skip
            refine pe_iconstv (n := 1) (v := 1) (by decide +kernel) (by decide +kernel) ?_
            refine pe_goto (off := 4) (t := 17) (by decide +kernel) (by decide) rfl ?_
            refine pe_iret (by decide +kernel) rfl rfl ⟨rfl, rfl, ?_⟩
            show pmE pg X pg_tyl pg_cl (d + 2) 23 108 [.ref 23, .int x1] [.int 1] (cd f A R wr) _
            refine pz_if_eq (off := 55) (t := 163) (by decide +kernel) (by decide) rfl kz_1 (fun h11 => by omega) (fun h11 => ?_)
            refine pe_aload_n (j := 0) (by decide +kernel) rfl ?_
            refine pe_dup (by decide +kernel) rfl ?_
            refine pe_get (j := 47) (ci := 4) (n := 5) (by decide +kernel) (by decide +kernel) cd_o23 rfl ?_
            refine pe_iconstv (n := 1) (v := 1) (by decide +kernel) (by decide +kernel) ?_
            refine pz_add (by decide +kernel) rfl kz_1 (by omega) (by omega) (fun z12 hz12 => ?_)
            refine cz_put373 (jj := 47) (by decide +kernel) (by decide +kernel) hI (by omega) (by omega) (fun f13 ef13 hIf13 => ?_)
            refine pe_goto (off := (-35)) (t := 86) (by decide +kernel) (by decide) rfl ?_
            have hn_f13 : (f13 373).toInt = ((f 373).toInt + 1) := (congrArg Int32.toInt (show f13 373 = z12 from upf_at ef13)).trans hz12
            exact ih f13 hIf13 (fun k n373 => (upf_fr ef13 n373).trans ((hG k n373))) (by omega)
set_option maxRecDepth 100000 in
set_option maxHeartbeats 8000000 in
theorem CL_23_0 {X : pm_X} {d : Nat} {wr : pm_W} {Q : pm_R → Prop} {f0 : Nat → Int32} {A : Nat → List Int32} {R : Nat → Value} (hX : XO X) (hR4 : R 4 = .ref 4) (k_38_0 : ∀ (f' : Nat → Int32), CI f' A R → (∀ k : Nat, k ≠ 373 → f' k = f0 k) → pmE pg X pg_tyl pg_cl (d + 2) 23 38 [.ref 23, pm_dead] [] (cd f' A R wr) Q) : ∀ (m : Nat) (f : Nat → Int32), CI f A R → (∀ k : Nat, k ≠ 373 → f k = f0 k) → 600 - (f 373).toInt < (m : Int) → pmE pg X pg_tyl pg_cl (d + 2) 23 0 [.ref 23, pm_dead] [] (cd f A R wr) Q := by
  intro m
  induction m with
  | zero =>
    intro f hI hG hm
    exfalso
    have h := cf_373 hI
    omega
  | succ m ih =>
    intro f hI hG hm
    refine pe_aload_n (j := 0) (by decide +kernel) rfl ?_
    refine pe_get (j := 47) (ci := 4) (n := 5) (by decide +kernel) (by decide +kernel) cd_o23 rfl ?_
    have hr_f_373 := cf_373 hI
    refine pe_aload_n (j := 0) (by decide +kernel) rfl ?_
    refine pe_get (j := 43) (ci := 4) (n := 4) (by decide +kernel) (by decide +kernel) cd_o23 rfl ?_
    have hr_f_372 := cf_372 hI
    refine pz_icmp_ge (off := 30) (t := 38) (by decide +kernel) (by decide) rfl rfl rfl (fun h1 => ?_) (fun h1 => ?_)
    · skip
      exact k_38_0 f hI (fun k n373 => (hG k n373))
    · skip
      refine pe_aload_n (j := 0) (by decide +kernel) rfl ?_
      refine pe_aload_n (j := 0) (by decide +kernel) rfl ?_
      refine pe_get (j := 47) (ci := 4) (n := 5) (by decide +kernel) (by decide +kernel) cd_o23 rfl ?_
      refine pi_V (j := 184) (mj := 24) (by decide +kernel) (cll_V (args := [.int (f 373)]) (n := 1) (by decide +kernel) rfl rfl cd_o23 (by decide +kernel) (Nat.le_of_ble_eq_true rfl) (Nat.le_of_ble_eq_true rfl)) ?_
      show pmE pg X pg_tyl pg_cl (d + 1) 24 0 [.ref 23, .int (f 373)] [] (cd f A R wr) _
      refine pe_iload_n (j := 1) (by decide +kernel) rfl ?_
      refine pz_if_lt (off := 20) (t := 21) (by decide +kernel) (by decide) rfl rfl (fun h2 => by omega) (fun h2 => ?_)
      refine pe_iload_n (j := 1) (by decide +kernel) rfl ?_
      refine pe_aload_n (j := 0) (by decide +kernel) rfl ?_
      refine pe_get (j := 43) (ci := 4) (n := 4) (by decide +kernel) (by decide +kernel) cd_o23 rfl ?_
      refine pz_icmp_ge (off := 12) (t := 21) (by decide +kernel) (by decide) rfl rfl rfl (fun h3 => ?_) (fun h3 => ?_)
      · skip
        refine pe_iconstv (n := (-1)) (v := (-1)) (by decide +kernel) (by decide +kernel) ?_
        refine pe_iret (by decide +kernel) rfl rfl ⟨rfl, rfl, ?_⟩
        show pmE pg X pg_tyl pg_cl (d + 2) 23 19 [.ref 23, pm_dead] [.int (-1)] (cd f A R wr) _
        refine pi_S (j := 191) (mj := 25) (by decide +kernel) (by decide +kernel) rfl ?_
        show pmE pg X pg_tyl pg_cl (d + 1) 25 0 [.int (-1)] [] (cd f A R wr) _
        refine pe_iload_n (j := 0) (by decide +kernel) rfl ?_
        refine pe_bipushv (n := 10) (v := 10) (by decide +kernel) (by decide +kernel) ?_
        refine pz_icmp_eq (off := 9) (t := 12) (by decide +kernel) (by decide) rfl kz_m1 kz_10 (fun h4 => by omega) (fun h4 => ?_)
        refine pe_iload_n (j := 0) (by decide +kernel) rfl ?_
        refine pe_bipushv (n := 32) (v := 32) (by decide +kernel) (by decide +kernel) ?_
        refine pz_icmp_ne (off := 7) (t := 16) (by decide +kernel) (by decide) rfl kz_m1 kz_32 (fun h5 => ?_) (fun h5 => by omega)
        refine pe_iconstv (n := 0) (v := 0) (by decide +kernel) (by decide +kernel) ?_
        refine pe_iret (by decide +kernel) rfl rfl ⟨rfl, rfl, ?_⟩
        show pmE pg X pg_tyl pg_cl (d + 2) 23 22 [.ref 23, pm_dead] [.int 0] (cd f A R wr) _
        refine pz_if_eq (off := 16) (t := 38) (by decide +kernel) (by decide) rfl kz_0 (fun h6 => ?_) (fun h6 => by omega)
        exact k_38_0 f hI (fun k n373 => (hG k n373))
      · skip
        refine pe_aload_n (j := 0) (by decide +kernel) rfl ?_
        refine pe_get (j := 29) (ci := 4) (n := 3) (by decide +kernel) (by decide +kernel) cd_o23 rfl ?_
        refine pe_topV (v := .ref 4) (hR4) ?_
        refine pe_iload_n (j := 1) (by decide +kernel) rfl ?_
        refine pz_bald (by decide +kernel) cd_a4 (cl_4 hI) rfl (by omega) (by omega) (fun v7 ev7 => ?_)
        have rv7 : (-128) ≤ v7.toInt ∧ v7.toInt ≤ 127 := ct_4 hI ev7
        refine pe_goto (off := 4) (t := 22) (by decide +kernel) (by decide) rfl ?_
        refine pe_iret (by decide +kernel) rfl rfl ⟨rfl, rfl, ?_⟩
        show pmE pg X pg_tyl pg_cl (d + 2) 23 19 [.ref 23, pm_dead] [.int v7] (cd f A R wr) _
        refine pi_S (j := 191) (mj := 25) (by decide +kernel) (by decide +kernel) rfl ?_
        show pmE pg X pg_tyl pg_cl (d + 1) 25 0 [.int v7] [] (cd f A R wr) _
        refine pe_iload_n (j := 0) (by decide +kernel) rfl ?_
        refine pe_bipushv (n := 10) (v := 10) (by decide +kernel) (by decide +kernel) ?_
        refine pz_icmp_eq (off := 9) (t := 12) (by decide +kernel) (by decide) rfl rfl kz_10 (fun h8 => ?_) (fun h8 => ?_)
        · skip
          refine pe_iconstv (n := 1) (v := 1) (by decide +kernel) (by decide +kernel) ?_
          refine pe_goto (off := 4) (t := 17) (by decide +kernel) (by decide) rfl ?_
          refine pe_iret (by decide +kernel) rfl rfl ⟨rfl, rfl, ?_⟩
          show pmE pg X pg_tyl pg_cl (d + 2) 23 22 [.ref 23, pm_dead] [.int 1] (cd f A R wr) _
          refine pz_if_eq (off := 16) (t := 38) (by decide +kernel) (by decide) rfl kz_1 (fun h9 => by omega) (fun h9 => ?_)
          refine pe_aload_n (j := 0) (by decide +kernel) rfl ?_
          refine pe_dup (by decide +kernel) rfl ?_
          refine pe_get (j := 47) (ci := 4) (n := 5) (by decide +kernel) (by decide +kernel) cd_o23 rfl ?_
          refine pe_iconstv (n := 1) (v := 1) (by decide +kernel) (by decide +kernel) ?_
          refine pz_add (by decide +kernel) rfl kz_1 (by omega) (by omega) (fun z10 hz10 => ?_)
          refine cz_put373 (jj := 47) (by decide +kernel) (by decide +kernel) hI (by omega) (by omega) (fun f11 ef11 hIf11 => ?_)
          refine pe_goto (off := (-35)) (t := 0) (by decide +kernel) (by decide) rfl ?_
          have hn_f11 : (f11 373).toInt = ((f 373).toInt + 1) := (congrArg Int32.toInt (show f11 373 = z10 from upf_at ef11)).trans hz10
          exact ih f11 hIf11 (fun k n373 => (upf_fr ef11 n373).trans ((hG k n373))) (by omega)
        · skip
          refine pe_iload_n (j := 0) (by decide +kernel) rfl ?_
          refine pe_bipushv (n := 32) (v := 32) (by decide +kernel) (by decide +kernel) ?_
          refine pz_icmp_ne (off := 7) (t := 16) (by decide +kernel) (by decide) rfl rfl kz_32 (fun h12 => ?_) (fun h12 => ?_)
          · skip
            refine pe_iconstv (n := 0) (v := 0) (by decide +kernel) (by decide +kernel) ?_
            refine pe_iret (by decide +kernel) rfl rfl ⟨rfl, rfl, ?_⟩
            show pmE pg X pg_tyl pg_cl (d + 2) 23 22 [.ref 23, pm_dead] [.int 0] (cd f A R wr) _
            refine pz_if_eq (off := 16) (t := 38) (by decide +kernel) (by decide) rfl kz_0 (fun h13 => ?_) (fun h13 => by omega)
            exact k_38_0 f hI (fun k n373 => (hG k n373))
          · skip
            refine pe_iconstv (n := 1) (v := 1) (by decide +kernel) (by decide +kernel) ?_
            refine pe_goto (off := 4) (t := 17) (by decide +kernel) (by decide) rfl ?_
            refine pe_iret (by decide +kernel) rfl rfl ⟨rfl, rfl, ?_⟩
            show pmE pg X pg_tyl pg_cl (d + 2) 23 22 [.ref 23, pm_dead] [.int 1] (cd f A R wr) _
            refine pz_if_eq (off := 16) (t := 38) (by decide +kernel) (by decide) rfl kz_1 (fun h14 => by omega) (fun h14 => ?_)
            refine pe_aload_n (j := 0) (by decide +kernel) rfl ?_
            refine pe_dup (by decide +kernel) rfl ?_
            refine pe_get (j := 47) (ci := 4) (n := 5) (by decide +kernel) (by decide +kernel) cd_o23 rfl ?_
            refine pe_iconstv (n := 1) (v := 1) (by decide +kernel) (by decide +kernel) ?_
            refine pz_add (by decide +kernel) rfl kz_1 (by omega) (by omega) (fun z15 hz15 => ?_)
            refine cz_put373 (jj := 47) (by decide +kernel) (by decide +kernel) hI (by omega) (by omega) (fun f16 ef16 hIf16 => ?_)
            refine pe_goto (off := (-35)) (t := 0) (by decide +kernel) (by decide) rfl ?_
            have hn_f16 : (f16 373).toInt = ((f 373).toInt + 1) := (congrArg Int32.toInt (show f16 373 = z15 from upf_at ef16)).trans hz15
            exact ih f16 hIf16 (fun k n373 => (upf_fr ef16 n373).trans ((hG k n373))) (by omega)
set_option maxRecDepth 100000 in
set_option maxHeartbeats 8000000 in
theorem CM_23 {X : pm_X} {d : Nat} {wr : pm_W} {f : Nat → Int32} {A : Nat → List Int32} {R : Nat → Value} (hX : XO X) (hI : CI f A R) (hR4 : R 4 = .ref 4) : pmE pg X pg_tyl pg_cl (d + 2) 23 0 (pm_ent (pm_max pg 23) [.ref 23]) [] (cd f A R wr) (fun q => ∃ (f' : Nat → Int32), q = (none, cd f' A R wr, 0, 0) ∧ CI f' A R ∧ (∀ k : Nat, k ≠ 373 → k ≠ 374 → k ≠ 375 → k ≠ 376 → f' k = f k) ∧ ((True))) := by
  show pmE pg X pg_tyl pg_cl (d + 2) 23 0 [.ref 23, pm_dead] [] (cd f A R wr) _
  refine CL_23_0 hX (hR4) (fun f1 hIy2 hGf1 => ?_) 601 f hI (fun k _ => rfl) (by have h := cf_373 hI; omega)
  refine pe_aload_n (j := 0) (by decide +kernel) rfl ?_
  refine pe_aload_n (j := 0) (by decide +kernel) rfl ?_
  refine pe_get (j := 47) (ci := 4) (n := 5) (by decide +kernel) (by decide +kernel) cd_o23 rfl ?_
  have hr_f1_373 := cf_373 hIy2
  refine cz_put375 (jj := 69) (by decide +kernel) (by decide +kernel) hIy2 (by omega) (by omega) (fun f3 ef3 hIf3 => ?_)
  refine pe_aload_n (j := 0) (by decide +kernel) rfl ?_
  refine pe_aload_n (j := 0) (by decide +kernel) rfl ?_
  refine pe_get (j := 47) (ci := 4) (n := 5) (by decide +kernel) (by decide +kernel) cd_o23 rfl ?_
  refine pe_top (v := (f1 373)) (upf_fr ef3 (by decide)) ?_
  refine pi_V (j := 184) (mj := 24) (by decide +kernel) (cll_V (args := [.int (f1 373)]) (n := 1) (by decide +kernel) rfl rfl cd_o23 (by decide +kernel) (Nat.le_of_ble_eq_true rfl) (Nat.le_of_ble_eq_true rfl)) ?_
  show pmE pg X pg_tyl pg_cl (d + 1) 24 0 [.ref 23, .int (f1 373)] [] (cd f3 A R wr) _
  refine pe_iload_n (j := 1) (by decide +kernel) rfl ?_
  refine pz_if_lt (off := 20) (t := 21) (by decide +kernel) (by decide) rfl rfl (fun h4 => by omega) (fun h4 => ?_)
  refine pe_iload_n (j := 1) (by decide +kernel) rfl ?_
  refine pe_aload_n (j := 0) (by decide +kernel) rfl ?_
  refine pe_get (j := 43) (ci := 4) (n := 4) (by decide +kernel) (by decide +kernel) cd_o23 rfl ?_
  have hr_f_372 := cf_372 hI
  refine pe_top (v := (f 372)) ((upf_fr ef3 (by decide)).trans ((hGf1 372 (by decide)))) ?_
  refine pz_icmp_ge (off := 12) (t := 21) (by decide +kernel) (by decide) rfl rfl rfl (fun h5 => ?_) (fun h5 => ?_)
  · skip
    refine pe_iconstv (n := (-1)) (v := (-1)) (by decide +kernel) (by decide +kernel) ?_
    refine pe_iret (by decide +kernel) rfl rfl ⟨rfl, rfl, ?_⟩
    show pmE pg X pg_tyl pg_cl (d + 2) 23 54 [.ref 23, pm_dead] [.int (-1)] (cd f3 A R wr) _
    refine pe_istore_n (j := 1) (ls' := [.ref 23, .int (-1)]) (by decide +kernel) (Nat.le_of_ble_eq_true rfl) rfl ?_
    refine pe_aload_n (j := 0) (by decide +kernel) rfl ?_
    refine pe_get (j := 47) (ci := 4) (n := 5) (by decide +kernel) (by decide +kernel) cd_o23 rfl ?_
    refine pe_top (v := (f1 373)) (upf_fr ef3 (by decide)) ?_
    refine pe_aload_n (j := 0) (by decide +kernel) rfl ?_
    refine pe_get (j := 43) (ci := 4) (n := 4) (by decide +kernel) (by decide +kernel) cd_o23 rfl ?_
    refine pe_top (v := (f 372)) ((upf_fr ef3 (by decide)).trans ((hGf1 372 (by decide)))) ?_
    refine pz_icmp_lt (off := 11) (t := 74) (by decide +kernel) (by decide) rfl rfl rfl (fun h6 => ?_) (fun h6 => ?_)
    · skip
      refine pe_iload_n (j := 1) (by decide +kernel) rfl ?_
      refine pi_S (j := 194) (mj := 26) (by decide +kernel) (by decide +kernel) rfl ?_
      show pmE pg X pg_tyl pg_cl (d + 1) 26 0 [.int (-1)] [] (cd f3 A R wr) _
      refine pe_iload_n (j := 0) (by decide +kernel) rfl ?_
      refine pe_bipushv (n := 97) (v := 97) (by decide +kernel) (by decide +kernel) ?_
      refine pz_icmp_lt (off := 13) (t := 16) (by decide +kernel) (by decide) rfl kz_m1 kz_97 (fun h7 => ?_) (fun h7 => by omega)
      refine pe_iconstv (n := 0) (v := 0) (by decide +kernel) (by decide +kernel) ?_
      refine pe_iret (by decide +kernel) rfl rfl ⟨rfl, rfl, ?_⟩
      show pmE pg X pg_tyl pg_cl (d + 2) 23 78 [.ref 23, .int (-1)] [.int 0] (cd f3 A R wr) _
      refine pz_if_eq (off := 46) (t := 124) (by decide +kernel) (by decide) rfl kz_0 (fun h8 => ?_) (fun h8 => by omega)
      refine pe_iload_n (j := 1) (by decide +kernel) rfl ?_
      refine pi_S (j := 197) (mj := 27) (by decide +kernel) (by decide +kernel) rfl ?_
      show pmE pg X pg_tyl pg_cl (d + 1) 27 0 [.int (-1)] [] (cd f3 A R wr) _
      refine pe_iload_n (j := 0) (by decide +kernel) rfl ?_
      refine pe_bipushv (n := 48) (v := 48) (by decide +kernel) (by decide +kernel) ?_
      refine pz_icmp_lt (off := 13) (t := 16) (by decide +kernel) (by decide) rfl kz_m1 kz_48 (fun h9 => ?_) (fun h9 => by omega)
      refine pe_iconstv (n := 0) (v := 0) (by decide +kernel) (by decide +kernel) ?_
      refine pe_iret (by decide +kernel) rfl rfl ⟨rfl, rfl, ?_⟩
      show pmE pg X pg_tyl pg_cl (d + 2) 23 128 [.ref 23, .int (-1)] [.int 0] (cd f3 A R wr) _
      refine pz_if_eq (off := 10) (t := 138) (by decide +kernel) (by decide) rfl kz_0 (fun h10 => ?_) (fun h10 => by omega)
      refine pe_aload_n (j := 0) (by decide +kernel) rfl ?_
      refine pe_iload_n (j := 1) (by decide +kernel) rfl ?_
      refine pe_bipushv (n := 59) (v := 59) (by decide +kernel) (by decide +kernel) ?_
      refine pz_icmp_ne (off := 7) (t := 149) (by decide +kernel) (by decide) rfl kz_m1 kz_59 (fun h11 => ?_) (fun h11 => by omega)
      refine pe_iconstv (n := 4) (v := 4) (by decide +kernel) (by decide +kernel) ?_
      refine cz_put374 (jj := 62) (by decide +kernel) (by decide +kernel) hIf3 (by decide +kernel) (by decide +kernel) (fun f12 ef12 hIf12 => ?_)
      refine pe_aload_n (j := 0) (by decide +kernel) rfl ?_
      refine pe_dup (by decide +kernel) rfl ?_
      refine pe_get (j := 47) (ci := 4) (n := 5) (by decide +kernel) (by decide +kernel) cd_o23 rfl ?_
      refine pe_top (v := (f1 373)) ((upf_fr ef12 (by decide)).trans (upf_fr ef3 (by decide))) ?_
      refine pe_iconstv (n := 1) (v := 1) (by decide +kernel) (by decide +kernel) ?_
      refine pz_add (by decide +kernel) rfl kz_1 (by omega) (by omega) (fun z13 hz13 => ?_)
      refine cz_put373 (jj := 47) (by decide +kernel) (by decide +kernel) hIf12 (by omega) (by omega) (fun f14 ef14 hIf14 => ?_)
      exact pe_vret (by decide +kernel) rfl ⟨f14, rfl, hIf14, (fun k n373 n374 n375 n376 => (upf_fr ef14 n373).trans ((upf_fr ef12 n374).trans ((upf_fr ef3 n375).trans ((hGf1 k n373))))), trivial⟩
    · skip
      refine pe_aload_n (j := 0) (by decide +kernel) rfl ?_
      refine pe_iconstv (n := 0) (v := 0) (by decide +kernel) (by decide +kernel) ?_
      refine cz_put374 (jj := 62) (by decide +kernel) (by decide +kernel) hIf3 (by decide +kernel) (by decide +kernel) (fun f15 ef15 hIf15 => ?_)
      refine pe_goto (off := 92) (t := 163) (by decide +kernel) (by decide) rfl ?_
      exact pe_vret (by decide +kernel) rfl ⟨f15, rfl, hIf15, (fun k n373 n374 n375 n376 => (upf_fr ef15 n374).trans ((upf_fr ef3 n375).trans ((hGf1 k n373)))), trivial⟩
  · skip
    refine pe_aload_n (j := 0) (by decide +kernel) rfl ?_
    refine pe_get (j := 29) (ci := 4) (n := 3) (by decide +kernel) (by decide +kernel) cd_o23 rfl ?_
    refine pe_topV (v := .ref 4) (hR4) ?_
    refine pe_iload_n (j := 1) (by decide +kernel) rfl ?_
    refine pz_bald (by decide +kernel) cd_a4 (cl_4 hIf3) rfl (by omega) (by omega) (fun v16 ev16 => ?_)
    have rv16 : (-128) ≤ v16.toInt ∧ v16.toInt ≤ 127 := ct_4 hIf3 ev16
    refine pe_goto (off := 4) (t := 22) (by decide +kernel) (by decide) rfl ?_
    refine pe_iret (by decide +kernel) rfl rfl ⟨rfl, rfl, ?_⟩
    show pmE pg X pg_tyl pg_cl (d + 2) 23 54 [.ref 23, pm_dead] [.int v16] (cd f3 A R wr) _
    refine pe_istore_n (j := 1) (ls' := [.ref 23, .int v16]) (by decide +kernel) (Nat.le_of_ble_eq_true rfl) rfl ?_
    refine pe_aload_n (j := 0) (by decide +kernel) rfl ?_
    refine pe_get (j := 47) (ci := 4) (n := 5) (by decide +kernel) (by decide +kernel) cd_o23 rfl ?_
    refine pe_top (v := (f1 373)) (upf_fr ef3 (by decide)) ?_
    refine pe_aload_n (j := 0) (by decide +kernel) rfl ?_
    refine pe_get (j := 43) (ci := 4) (n := 4) (by decide +kernel) (by decide +kernel) cd_o23 rfl ?_
    refine pe_top (v := (f 372)) ((upf_fr ef3 (by decide)).trans ((hGf1 372 (by decide)))) ?_
    refine pz_icmp_lt (off := 11) (t := 74) (by decide +kernel) (by decide) rfl rfl rfl (fun h17 => ?_) (fun h17 => ?_)
    · skip
      refine pe_iload_n (j := 1) (by decide +kernel) rfl ?_
      refine pi_S (j := 194) (mj := 26) (by decide +kernel) (by decide +kernel) rfl ?_
      show pmE pg X pg_tyl pg_cl (d + 1) 26 0 [.int v16] [] (cd f3 A R wr) _
      refine pe_iload_n (j := 0) (by decide +kernel) rfl ?_
      refine pe_bipushv (n := 97) (v := 97) (by decide +kernel) (by decide +kernel) ?_
      refine pz_icmp_lt (off := 13) (t := 16) (by decide +kernel) (by decide) rfl rfl kz_97 (fun h18 => ?_) (fun h18 => ?_)
      · skip
        refine pe_iconstv (n := 0) (v := 0) (by decide +kernel) (by decide +kernel) ?_
        refine pe_iret (by decide +kernel) rfl rfl ⟨rfl, rfl, ?_⟩
        show pmE pg X pg_tyl pg_cl (d + 2) 23 78 [.ref 23, .int v16] [.int 0] (cd f3 A R wr) _
        refine pz_if_eq (off := 46) (t := 124) (by decide +kernel) (by decide) rfl kz_0 (fun h19 => ?_) (fun h19 => by omega)
        refine pe_iload_n (j := 1) (by decide +kernel) rfl ?_
        refine pi_S (j := 197) (mj := 27) (by decide +kernel) (by decide +kernel) rfl ?_
        show pmE pg X pg_tyl pg_cl (d + 1) 27 0 [.int v16] [] (cd f3 A R wr) _
        refine pe_iload_n (j := 0) (by decide +kernel) rfl ?_
        refine pe_bipushv (n := 48) (v := 48) (by decide +kernel) (by decide +kernel) ?_
        refine pz_icmp_lt (off := 13) (t := 16) (by decide +kernel) (by decide) rfl rfl kz_48 (fun h20 => ?_) (fun h20 => ?_)
        · skip
          refine pe_iconstv (n := 0) (v := 0) (by decide +kernel) (by decide +kernel) ?_
          refine pe_iret (by decide +kernel) rfl rfl ⟨rfl, rfl, ?_⟩
          show pmE pg X pg_tyl pg_cl (d + 2) 23 128 [.ref 23, .int v16] [.int 0] (cd f3 A R wr) _
          refine pz_if_eq (off := 10) (t := 138) (by decide +kernel) (by decide) rfl kz_0 (fun h21 => ?_) (fun h21 => by omega)
          refine pe_aload_n (j := 0) (by decide +kernel) rfl ?_
          refine pe_iload_n (j := 1) (by decide +kernel) rfl ?_
          refine pe_bipushv (n := 59) (v := 59) (by decide +kernel) (by decide +kernel) ?_
          refine pz_icmp_ne (off := 7) (t := 149) (by decide +kernel) (by decide) rfl rfl kz_59 (fun h22 => ?_) (fun h22 => by omega)
          refine pe_iconstv (n := 4) (v := 4) (by decide +kernel) (by decide +kernel) ?_
          refine cz_put374 (jj := 62) (by decide +kernel) (by decide +kernel) hIf3 (by decide +kernel) (by decide +kernel) (fun f23 ef23 hIf23 => ?_)
          refine pe_aload_n (j := 0) (by decide +kernel) rfl ?_
          refine pe_dup (by decide +kernel) rfl ?_
          refine pe_get (j := 47) (ci := 4) (n := 5) (by decide +kernel) (by decide +kernel) cd_o23 rfl ?_
          refine pe_top (v := (f1 373)) ((upf_fr ef23 (by decide)).trans (upf_fr ef3 (by decide))) ?_
          refine pe_iconstv (n := 1) (v := 1) (by decide +kernel) (by decide +kernel) ?_
          refine pz_add (by decide +kernel) rfl kz_1 (by omega) (by omega) (fun z24 hz24 => ?_)
          refine cz_put373 (jj := 47) (by decide +kernel) (by decide +kernel) hIf23 (by omega) (by omega) (fun f25 ef25 hIf25 => ?_)
          exact pe_vret (by decide +kernel) rfl ⟨f25, rfl, hIf25, (fun k n373 n374 n375 n376 => (upf_fr ef25 n373).trans ((upf_fr ef23 n374).trans ((upf_fr ef3 n375).trans ((hGf1 k n373))))), trivial⟩
        · skip
          refine pe_iload_n (j := 0) (by decide +kernel) rfl ?_
          refine pe_bipushv (n := 57) (v := 57) (by decide +kernel) (by decide +kernel) ?_
          refine pz_icmp_gt (off := 7) (t := 16) (by decide +kernel) (by decide) rfl rfl kz_57 (fun h26 => ?_) (fun h26 => ?_)
          · skip
            refine pe_iconstv (n := 0) (v := 0) (by decide +kernel) (by decide +kernel) ?_
            refine pe_iret (by decide +kernel) rfl rfl ⟨rfl, rfl, ?_⟩
            show pmE pg X pg_tyl pg_cl (d + 2) 23 128 [.ref 23, .int v16] [.int 0] (cd f3 A R wr) _
            refine pz_if_eq (off := 10) (t := 138) (by decide +kernel) (by decide) rfl kz_0 (fun h27 => ?_) (fun h27 => by omega)
            refine pe_aload_n (j := 0) (by decide +kernel) rfl ?_
            refine pe_iload_n (j := 1) (by decide +kernel) rfl ?_
            refine pe_bipushv (n := 59) (v := 59) (by decide +kernel) (by decide +kernel) ?_
            refine pz_icmp_ne (off := 7) (t := 149) (by decide +kernel) (by decide) rfl rfl kz_59 (fun h28 => ?_) (fun h28 => ?_)
            · skip
              refine pe_iconstv (n := 4) (v := 4) (by decide +kernel) (by decide +kernel) ?_
              refine cz_put374 (jj := 62) (by decide +kernel) (by decide +kernel) hIf3 (by decide +kernel) (by decide +kernel) (fun f29 ef29 hIf29 => ?_)
              refine pe_aload_n (j := 0) (by decide +kernel) rfl ?_
              refine pe_dup (by decide +kernel) rfl ?_
              refine pe_get (j := 47) (ci := 4) (n := 5) (by decide +kernel) (by decide +kernel) cd_o23 rfl ?_
              refine pe_top (v := (f1 373)) ((upf_fr ef29 (by decide)).trans (upf_fr ef3 (by decide))) ?_
              refine pe_iconstv (n := 1) (v := 1) (by decide +kernel) (by decide +kernel) ?_
              refine pz_add (by decide +kernel) rfl kz_1 (by omega) (by omega) (fun z30 hz30 => ?_)
              refine cz_put373 (jj := 47) (by decide +kernel) (by decide +kernel) hIf29 (by omega) (by omega) (fun f31 ef31 hIf31 => ?_)
              exact pe_vret (by decide +kernel) rfl ⟨f31, rfl, hIf31, (fun k n373 n374 n375 n376 => (upf_fr ef31 n373).trans ((upf_fr ef29 n374).trans ((upf_fr ef3 n375).trans ((hGf1 k n373))))), trivial⟩
            · skip
              refine pe_iconstv (n := 3) (v := 3) (by decide +kernel) (by decide +kernel) ?_
              refine pe_goto (off := 4) (t := 150) (by decide +kernel) (by decide) rfl ?_
              refine cz_put374 (jj := 62) (by decide +kernel) (by decide +kernel) hIf3 (by decide +kernel) (by decide +kernel) (fun f32 ef32 hIf32 => ?_)
              refine pe_aload_n (j := 0) (by decide +kernel) rfl ?_
              refine pe_dup (by decide +kernel) rfl ?_
              refine pe_get (j := 47) (ci := 4) (n := 5) (by decide +kernel) (by decide +kernel) cd_o23 rfl ?_
              refine pe_top (v := (f1 373)) ((upf_fr ef32 (by decide)).trans (upf_fr ef3 (by decide))) ?_
              refine pe_iconstv (n := 1) (v := 1) (by decide +kernel) (by decide +kernel) ?_
              refine pz_add (by decide +kernel) rfl kz_1 (by omega) (by omega) (fun z33 hz33 => ?_)
              refine cz_put373 (jj := 47) (by decide +kernel) (by decide +kernel) hIf32 (by omega) (by omega) (fun f34 ef34 hIf34 => ?_)
              exact pe_vret (by decide +kernel) rfl ⟨f34, rfl, hIf34, (fun k n373 n374 n375 n376 => (upf_fr ef34 n373).trans ((upf_fr ef32 n374).trans ((upf_fr ef3 n375).trans ((hGf1 k n373))))), trivial⟩
          · skip
            refine pe_iconstv (n := 1) (v := 1) (by decide +kernel) (by decide +kernel) ?_
            refine pe_goto (off := 4) (t := 17) (by decide +kernel) (by decide) rfl ?_
            refine pe_iret (by decide +kernel) rfl rfl ⟨rfl, rfl, ?_⟩
            show pmE pg X pg_tyl pg_cl (d + 2) 23 128 [.ref 23, .int v16] [.int 1] (cd f3 A R wr) _
            refine pz_if_eq (off := 10) (t := 138) (by decide +kernel) (by decide) rfl kz_1 (fun h35 => by omega) (fun h35 => ?_)
            refine pe_aload_n (j := 0) (by decide +kernel) rfl ?_
            refine pz_callV (j := 200) (mj := 28) (by decide +kernel) (cll_V (args := []) (n := 0) (by decide +kernel) rfl rfl cd_o23 (by decide +kernel) (Nat.le_of_ble_eq_true rfl) (Nat.le_of_ble_eq_true rfl)) (CM_28 hX hIf3 (hR4)) (fun q36a q36b q36c q36d hqq36 => ?_)
            obtain ⟨f37, eq36, hIq36, hGq36, kq36⟩ := hqq36
            cases eq36
            refine ⟨rfl, rfl, ?_⟩
            show pmE pg X pg_tyl pg_cl (d + 2) 23 135 [.ref 23, .int v16] [] (cd f37 A R wr) _
            refine pe_goto (off := 28) (t := 163) (by decide +kernel) (by decide) rfl ?_
            exact pe_vret (by decide +kernel) rfl ⟨f37, rfl, hIq36, (fun k n373 n374 n375 n376 => ((hGq36 k n373 n374 n376)).trans ((upf_fr ef3 n375).trans ((hGf1 k n373)))), trivial⟩
      · skip
        refine pe_iload_n (j := 0) (by decide +kernel) rfl ?_
        refine pe_bipushv (n := 122) (v := 122) (by decide +kernel) (by decide +kernel) ?_
        refine pz_icmp_gt (off := 7) (t := 16) (by decide +kernel) (by decide) rfl rfl kz_122 (fun h38 => ?_) (fun h38 => ?_)
        · skip
          refine pe_iconstv (n := 0) (v := 0) (by decide +kernel) (by decide +kernel) ?_
          refine pe_iret (by decide +kernel) rfl rfl ⟨rfl, rfl, ?_⟩
          show pmE pg X pg_tyl pg_cl (d + 2) 23 78 [.ref 23, .int v16] [.int 0] (cd f3 A R wr) _
          refine pz_if_eq (off := 46) (t := 124) (by decide +kernel) (by decide) rfl kz_0 (fun h39 => ?_) (fun h39 => by omega)
          refine pe_iload_n (j := 1) (by decide +kernel) rfl ?_
          refine pi_S (j := 197) (mj := 27) (by decide +kernel) (by decide +kernel) rfl ?_
          show pmE pg X pg_tyl pg_cl (d + 1) 27 0 [.int v16] [] (cd f3 A R wr) _
          refine pe_iload_n (j := 0) (by decide +kernel) rfl ?_
          refine pe_bipushv (n := 48) (v := 48) (by decide +kernel) (by decide +kernel) ?_
          refine pz_icmp_lt (off := 13) (t := 16) (by decide +kernel) (by decide) rfl rfl kz_48 (fun h40 => by omega) (fun h40 => ?_)
          refine pe_iload_n (j := 0) (by decide +kernel) rfl ?_
          refine pe_bipushv (n := 57) (v := 57) (by decide +kernel) (by decide +kernel) ?_
          refine pz_icmp_gt (off := 7) (t := 16) (by decide +kernel) (by decide) rfl rfl kz_57 (fun h41 => ?_) (fun h41 => by omega)
          refine pe_iconstv (n := 0) (v := 0) (by decide +kernel) (by decide +kernel) ?_
          refine pe_iret (by decide +kernel) rfl rfl ⟨rfl, rfl, ?_⟩
          show pmE pg X pg_tyl pg_cl (d + 2) 23 128 [.ref 23, .int v16] [.int 0] (cd f3 A R wr) _
          refine pz_if_eq (off := 10) (t := 138) (by decide +kernel) (by decide) rfl kz_0 (fun h42 => ?_) (fun h42 => by omega)
          refine pe_aload_n (j := 0) (by decide +kernel) rfl ?_
          refine pe_iload_n (j := 1) (by decide +kernel) rfl ?_
          refine pe_bipushv (n := 59) (v := 59) (by decide +kernel) (by decide +kernel) ?_
          refine pz_icmp_ne (off := 7) (t := 149) (by decide +kernel) (by decide) rfl rfl kz_59 (fun h43 => ?_) (fun h43 => by omega)
          refine pe_iconstv (n := 4) (v := 4) (by decide +kernel) (by decide +kernel) ?_
          refine cz_put374 (jj := 62) (by decide +kernel) (by decide +kernel) hIf3 (by decide +kernel) (by decide +kernel) (fun f44 ef44 hIf44 => ?_)
          refine pe_aload_n (j := 0) (by decide +kernel) rfl ?_
          refine pe_dup (by decide +kernel) rfl ?_
          refine pe_get (j := 47) (ci := 4) (n := 5) (by decide +kernel) (by decide +kernel) cd_o23 rfl ?_
          refine pe_top (v := (f1 373)) ((upf_fr ef44 (by decide)).trans (upf_fr ef3 (by decide))) ?_
          refine pe_iconstv (n := 1) (v := 1) (by decide +kernel) (by decide +kernel) ?_
          refine pz_add (by decide +kernel) rfl kz_1 (by omega) (by omega) (fun z45 hz45 => ?_)
          refine cz_put373 (jj := 47) (by decide +kernel) (by decide +kernel) hIf44 (by omega) (by omega) (fun f46 ef46 hIf46 => ?_)
          exact pe_vret (by decide +kernel) rfl ⟨f46, rfl, hIf46, (fun k n373 n374 n375 n376 => (upf_fr ef46 n373).trans ((upf_fr ef44 n374).trans ((upf_fr ef3 n375).trans ((hGf1 k n373))))), trivial⟩
        · skip
          refine pe_iconstv (n := 1) (v := 1) (by decide +kernel) (by decide +kernel) ?_
          refine pe_goto (off := 4) (t := 17) (by decide +kernel) (by decide) rfl ?_
          refine pe_iret (by decide +kernel) rfl rfl ⟨rfl, rfl, ?_⟩
          show pmE pg X pg_tyl pg_cl (d + 2) 23 78 [.ref 23, .int v16] [.int 1] (cd f3 A R wr) _
          refine pz_if_eq (off := 46) (t := 124) (by decide +kernel) (by decide) rfl kz_1 (fun h47 => by omega) (fun h47 => ?_)
          refine pe_aload_n (j := 0) (by decide +kernel) rfl ?_
          refine pe_iconstv (n := 1) (v := 1) (by decide +kernel) (by decide +kernel) ?_
          refine cz_put374 (jj := 62) (by decide +kernel) (by decide +kernel) hIf3 (by decide +kernel) (by decide +kernel) (fun f48 ef48 hIf48 => ?_)
          refine CL_23_86 hX (hR4) (by omega) (fun f49 hIy50 hGf49 => ?_) 601 f48 hIf48 (fun k _ => rfl) (by have h := cf_373 hIf48; omega)
          exact pe_vret (by decide +kernel) rfl ⟨f49, rfl, hIy50, (fun k n373 n374 n375 n376 => ((hGf49 k n373)).trans ((upf_fr ef48 n374).trans ((upf_fr ef3 n375).trans ((hGf1 k n373))))), trivial⟩
    · skip
      refine pe_aload_n (j := 0) (by decide +kernel) rfl ?_
      refine pe_iconstv (n := 0) (v := 0) (by decide +kernel) (by decide +kernel) ?_
      refine cz_put374 (jj := 62) (by decide +kernel) (by decide +kernel) hIf3 (by decide +kernel) (by decide +kernel) (fun f51 ef51 hIf51 => ?_)
      refine pe_goto (off := 92) (t := 163) (by decide +kernel) (by decide) rfl ?_
      exact pe_vret (by decide +kernel) rfl ⟨f51, rfl, hIf51, (fun k n373 n374 n375 n376 => (upf_fr ef51 n374).trans ((upf_fr ef3 n375).trans ((hGf1 k n373)))), trivial⟩
set_option maxRecDepth 100000 in
set_option maxHeartbeats 8000000 in
theorem CL_32_20 {X : pm_X} {d : Nat} {wr : pm_W} {Q : pm_R → Prop} {f : Nat → Int32} {A : Nat → List Int32} {R : Nat → Value} (hX : XO X) (hI : CI f A R) (hR4 : R 4 = .ref 4) (k_54_0 : ∀ (y2 : Int32), (3 ≤ y2.toInt ∧ y2.toInt ≤ 3) → pmE pg X pg_tyl pg_cl (d + 5) 32 54 [.ref 23, .retAddr 20, .int y2] [] (cd f A R wr) Q) (kr_0 : Q (some (.int 0), cd f A R wr, 0, 0)) : ∀ (m : Nat) (x2 : Int32), (0 ≤ x2.toInt ∧ x2.toInt ≤ 3) → 3 - x2.toInt < (m : Int) → pmE pg X pg_tyl pg_cl (d + 5) 32 20 [.ref 23, .retAddr 20, .int x2] [] (cd f A R wr) Q := by
  intro m
  induction m with
  | zero =>
    intro x2 gx2 hm
    exfalso
    have l0 := zi_lo x2
    have u0 := zi_hi x2
    omega
  | succ m ih =>
    intro x2 gx2 hm
    refine pe_iload_n (j := 2) (by decide +kernel) rfl ?_
    refine pe_aloadX_n (j := 1) (by decide +kernel) rfl ?_
    refine pi_V (j := 179) (mj := 33) (by decide +kernel) (cll_T (args := []) (n := 0) (by decide +kernel) rfl rfl (hX 20 (by decide +kernel)) (by decide +kernel) (Nat.le_of_ble_eq_true rfl) (Nat.le_of_ble_eq_true rfl)) ?_
    show pmE pg X pg_tyl pg_cl (d + 4) 33 0 [.retAddr 20] [] (cd f A R wr) _
    refine pe_aloadX_n (j := 0) (by decide +kernel) rfl ?_
    refine pe_getT1 (k := 9) (by decide +kernel) (hX 20 (by decide +kernel)) (by decide +kernel) ?_
    refine pe_alenXv (v := 3) (by decide +kernel) (hX 21 (by decide +kernel)) (by decide +kernel) (by decide +kernel) ?_
    refine pe_aloadX_n (j := 0) (by decide +kernel) rfl ?_
    refine pi_V (j := 335) (mj := 34) (by decide +kernel) (cll_T (args := []) (n := 0) (by decide +kernel) rfl rfl (hX 20 (by decide +kernel)) (by decide +kernel) (Nat.le_of_ble_eq_true rfl) (Nat.le_of_ble_eq_true rfl)) ?_
    show pmE pg X pg_tyl pg_cl (d + 3) 34 0 [.retAddr 20] [] (cd f A R wr) _
    refine pe_getstatic (j := 38) (v := .int 1) (by decide +kernel) (by decide +kernel) ?_
    refine pz_if_eq (off := 10) (t := 13) (by decide +kernel) (by decide) rfl kz_1 (fun h1 => by omega) (fun h1 => ?_)
    refine pe_aloadX_n (j := 0) (by decide +kernel) rfl ?_
    refine pe_getT0 (k := 15) (by decide +kernel) (hX 20 (by decide +kernel)) (by decide +kernel) ?_
    refine pe_goto (off := 4) (t := 14) (by decide +kernel) (by decide) rfl ?_
    refine pe_iret (by decide +kernel) rfl (by decide +kernel) ⟨rfl, rfl, ?_⟩
    show pmE pg X pg_tyl pg_cl (d + 4) 33 9 [.retAddr 20] [.int 0, .int 3] (cd f A R wr) _
    refine pe_ishr (by decide +kernel) ?_
    refine pe_top (v := 3) (by decide +kernel) ?_
    refine pe_iret (by decide +kernel) rfl rfl ⟨rfl, rfl, ?_⟩
    show pmE pg X pg_tyl pg_cl (d + 5) 32 25 [.ref 23, .retAddr 20, .int x2] [.int 3, .int x2] (cd f A R wr) _
    refine pz_icmp_ge (off := 29) (t := 54) (by decide +kernel) (by decide) rfl rfl kz_3 (fun h3 => ?_) (fun h3 => ?_)
    · skip
      exact k_54_0 x2 (by omega)
    · skip
      refine pe_aload_n (j := 0) (by decide +kernel) rfl ?_
      refine pe_aload_n (j := 0) (by decide +kernel) rfl ?_
      refine pe_get (j := 69) (ci := 4) (n := 7) (by decide +kernel) (by decide +kernel) cd_o23 rfl ?_
      have hr_f_375 := cf_375 hI
      refine pe_iload_n (j := 2) (by decide +kernel) rfl ?_
      refine pz_add (by decide +kernel) rfl rfl (by omega) (by omega) (fun z4 hz4 => ?_)
      refine pi_V (j := 184) (mj := 24) (by decide +kernel) (cll_V (args := [.int z4]) (n := 1) (by decide +kernel) rfl rfl cd_o23 (by decide +kernel) (Nat.le_of_ble_eq_true rfl) (Nat.le_of_ble_eq_true rfl)) ?_
      show pmE pg X pg_tyl pg_cl (d + 4) 24 0 [.ref 23, .int z4] [] (cd f A R wr) _
      refine pe_iload_n (j := 1) (by decide +kernel) rfl ?_
      refine pz_if_lt (off := 20) (t := 21) (by decide +kernel) (by decide) rfl hz4 (fun h5 => by omega) (fun h5 => ?_)
      refine pe_iload_n (j := 1) (by decide +kernel) rfl ?_
      refine pe_aload_n (j := 0) (by decide +kernel) rfl ?_
      refine pe_get (j := 43) (ci := 4) (n := 4) (by decide +kernel) (by decide +kernel) cd_o23 rfl ?_
      have hr_f_372 := cf_372 hI
      refine pz_icmp_ge (off := 12) (t := 21) (by decide +kernel) (by decide) rfl hz4 rfl (fun h6 => ?_) (fun h6 => ?_)
      · skip
        refine pe_iconstv (n := (-1)) (v := (-1)) (by decide +kernel) (by decide +kernel) ?_
        refine pe_iret (by decide +kernel) rfl rfl ⟨rfl, rfl, ?_⟩
        show pmE pg X pg_tyl pg_cl (d + 5) 32 38 [.ref 23, .retAddr 20, .int x2] [.int (-1)] (cd f A R wr) _
        refine pe_aloadX_n (j := 1) (by decide +kernel) rfl ?_
        refine pe_iload_n (j := 2) (by decide +kernel) rfl ?_
        refine pi_V (j := 187) (mj := 35) (by decide +kernel) (cll_T (args := [.int x2]) (n := 1) (by decide +kernel) rfl rfl (hX 20 (by decide +kernel)) (by decide +kernel) (Nat.le_of_ble_eq_true rfl) (Nat.le_of_ble_eq_true rfl)) ?_
        show pmE pg X pg_tyl pg_cl (d + 4) 35 0 [.retAddr 20, .int x2] [] (cd f A R wr) _
        refine pe_aloadX_n (j := 0) (by decide +kernel) rfl ?_
        refine pi_V (j := 492) (mj := 36) (by decide +kernel) (cll_T (args := []) (n := 0) (by decide +kernel) rfl rfl (hX 20 (by decide +kernel)) (by decide +kernel) (Nat.le_of_ble_eq_true rfl) (Nat.le_of_ble_eq_true rfl)) ?_
        show pmE pg X pg_tyl pg_cl (d + 3) 36 0 [.retAddr 20] [] (cd f A R wr) _
        refine pe_getstatic (j := 38) (v := .int 1) (by decide +kernel) (by decide +kernel) ?_
        refine pz_if_eq (off := 14) (t := 17) (by decide +kernel) (by decide) rfl kz_1 (fun h7 => by omega) (fun h7 => ?_)
        refine pe_aloadX_n (j := 0) (by decide +kernel) rfl ?_
        refine pe_getT0 (k := 15) (by decide +kernel) (hX 20 (by decide +kernel)) (by decide +kernel) ?_
        refine pz_if_ne (off := 7) (t := 17) (by decide +kernel) (by decide) rfl kz_0 (fun h8 => by omega) (fun h8 => ?_)
        refine pe_iconstv (n := 1) (v := 1) (by decide +kernel) (by decide +kernel) ?_
        refine pe_goto (off := 4) (t := 18) (by decide +kernel) (by decide) rfl ?_
        refine pe_iret (by decide +kernel) rfl rfl ⟨rfl, rfl, ?_⟩
        show pmE pg X pg_tyl pg_cl (d + 4) 35 4 [.retAddr 20, .int x2] [.int 1] (cd f A R wr) _
        refine pz_if_eq (off := 12) (t := 16) (by decide +kernel) (by decide) rfl kz_1 (fun h9 => by omega) (fun h9 => ?_)
        refine pe_aloadX_n (j := 0) (by decide +kernel) rfl ?_
        refine pe_getT1 (k := 9) (by decide +kernel) (hX 20 (by decide +kernel)) (by decide +kernel) ?_
        refine pe_iload_n (j := 1) (by decide +kernel) rfl ?_
        refine pi_S (j := 495) (mj := 37) (by decide +kernel) (by decide +kernel) rfl ?_
        show pmE pg X pg_tyl pg_cl (d + 3) 37 0 [.retAddr 21, .int x2] [] (cd f A R wr) _
        refine pe_iload_n (j := 1) (by decide +kernel) rfl ?_
        refine pe_aloadX_n (j := 0) (by decide +kernel) rfl ?_
        refine pe_alenXv (v := 3) (by decide +kernel) (hX 21 (by decide +kernel)) (by decide +kernel) (by decide +kernel) ?_
        refine pi_S (j := 9) (mj := 38) (by decide +kernel) (by decide +kernel) rfl ?_
        show pmE pg X pg_tyl pg_cl (d + 2) 38 0 [.int x2, .int 3] [] (cd f A R wr) _
        refine pe_iload_n (j := 0) (by decide +kernel) rfl ?_
        refine pe_iload_n (j := 1) (by decide +kernel) rfl ?_
        refine pe_getstatic (j := 1053) (v := .retAddr 99) (by decide +kernel) (by decide +kernel) ?_
        refine pi_S (j := 1059) (mj := 39) (by decide +kernel) (by decide +kernel) rfl ?_
        show pmE pg X pg_tyl pg_cl (d + 1) 39 0 [.int x2, .int 3, .retAddr 99] [] (cd f A R wr) _
        refine pe_iload_n (j := 0) (by decide +kernel) rfl ?_
        refine pz_if_lt (off := 8) (t := 9) (by decide +kernel) (by decide) rfl rfl (fun h10 => by omega) (fun h10 => ?_)
        refine pe_iload_n (j := 0) (by decide +kernel) rfl ?_
        refine pe_iload_n (j := 1) (by decide +kernel) rfl ?_
        refine pz_icmp_lt (off := 10) (t := 16) (by decide +kernel) (by decide) rfl rfl kz_3 (fun h11 => ?_) (fun h11 => by omega)
        refine pe_iload_n (j := 0) (by decide +kernel) rfl ?_
        refine pe_iret (by decide +kernel) rfl rfl ⟨rfl, rfl, ?_⟩
        show pmE pg X pg_tyl pg_cl (d + 2) 38 8 [.int x2, .int 3] [.int x2] (cd f A R wr) _
        refine pe_pop (by decide +kernel) rfl ?_
        refine pe_vret (by decide +kernel) rfl ⟨rfl, rfl, ?_⟩
        show pmE pg X pg_tyl pg_cl (d + 3) 37 6 [.retAddr 21, .int x2] [] (cd f A R wr) _
        refine pe_aloadX_n (j := 0) (by decide +kernel) rfl ?_
        refine pe_iload_n (j := 1) (by decide +kernel) rfl ?_
        refine pz_baldX (by decide +kernel) (hX 21 (by decide +kernel)) rfl rfl (by omega) (by omega) (fun v12 ev12 => ?_)
        have rv12 : 0 ≤ v12.toInt ∧ v12.toInt ≤ 119 := by rw [ev12]; exact lt_all (by decide +kernel) (by decide) _
        refine pe_sipushv (n := 255) (v := 255) (by decide +kernel) (by decide +kernel) ?_
        refine pz_and255 (by decide +kernel) (fun z13 hz13 => ?_)
        refine pz_i2c (by decide +kernel) rfl (by omega) (by omega) (fun z14 hz14 => ?_)
        rw [hz14]
        refine pe_iret (by decide +kernel) rfl (nz_c (by omega)) ⟨rfl, rfl, ?_⟩
        show pmE pg X pg_tyl pg_cl (d + 4) 35 15 [.retAddr 20, .int x2] [.int z13] (cd f A R wr) _
        refine pe_iret (by decide +kernel) rfl (nz_c (by omega)) ⟨rfl, rfl, ?_⟩
        show pmE pg X pg_tyl pg_cl (d + 5) 32 43 [.ref 23, .retAddr 20, .int x2] [.int z13, .int (-1)] (cd f A R wr) _
        refine pz_icmp_eq (off := 5) (t := 48) (by decide +kernel) (by decide) rfl kz_m1 rfl (fun h15 => by omega) (fun h15 => ?_)
        refine pe_iconstv (n := 0) (v := 0) (by decide +kernel) (by decide +kernel) ?_
        exact pe_iret (by decide +kernel) rfl rfl kr_0
      · skip
        refine pe_aload_n (j := 0) (by decide +kernel) rfl ?_
        refine pe_get (j := 29) (ci := 4) (n := 3) (by decide +kernel) (by decide +kernel) cd_o23 rfl ?_
        refine pe_topV (v := .ref 4) (hR4) ?_
        refine pe_iload_n (j := 1) (by decide +kernel) rfl ?_
        refine pz_bald (by decide +kernel) cd_a4 (cl_4 hI) hz4 (by omega) (by omega) (fun v16 ev16 => ?_)
        have rv16 : (-128) ≤ v16.toInt ∧ v16.toInt ≤ 127 := ct_4 hI ev16
        refine pe_goto (off := 4) (t := 22) (by decide +kernel) (by decide) rfl ?_
        refine pe_iret (by decide +kernel) rfl rfl ⟨rfl, rfl, ?_⟩
        show pmE pg X pg_tyl pg_cl (d + 5) 32 38 [.ref 23, .retAddr 20, .int x2] [.int v16] (cd f A R wr) _
        refine pe_aloadX_n (j := 1) (by decide +kernel) rfl ?_
        refine pe_iload_n (j := 2) (by decide +kernel) rfl ?_
        refine pi_V (j := 187) (mj := 35) (by decide +kernel) (cll_T (args := [.int x2]) (n := 1) (by decide +kernel) rfl rfl (hX 20 (by decide +kernel)) (by decide +kernel) (Nat.le_of_ble_eq_true rfl) (Nat.le_of_ble_eq_true rfl)) ?_
        show pmE pg X pg_tyl pg_cl (d + 4) 35 0 [.retAddr 20, .int x2] [] (cd f A R wr) _
        refine pe_aloadX_n (j := 0) (by decide +kernel) rfl ?_
        refine pi_V (j := 492) (mj := 36) (by decide +kernel) (cll_T (args := []) (n := 0) (by decide +kernel) rfl rfl (hX 20 (by decide +kernel)) (by decide +kernel) (Nat.le_of_ble_eq_true rfl) (Nat.le_of_ble_eq_true rfl)) ?_
        show pmE pg X pg_tyl pg_cl (d + 3) 36 0 [.retAddr 20] [] (cd f A R wr) _
        refine pe_getstatic (j := 38) (v := .int 1) (by decide +kernel) (by decide +kernel) ?_
        refine pz_if_eq (off := 14) (t := 17) (by decide +kernel) (by decide) rfl kz_1 (fun h17 => by omega) (fun h17 => ?_)
        refine pe_aloadX_n (j := 0) (by decide +kernel) rfl ?_
        refine pe_getT0 (k := 15) (by decide +kernel) (hX 20 (by decide +kernel)) (by decide +kernel) ?_
        refine pz_if_ne (off := 7) (t := 17) (by decide +kernel) (by decide) rfl kz_0 (fun h18 => by omega) (fun h18 => ?_)
        refine pe_iconstv (n := 1) (v := 1) (by decide +kernel) (by decide +kernel) ?_
        refine pe_goto (off := 4) (t := 18) (by decide +kernel) (by decide) rfl ?_
        refine pe_iret (by decide +kernel) rfl rfl ⟨rfl, rfl, ?_⟩
        show pmE pg X pg_tyl pg_cl (d + 4) 35 4 [.retAddr 20, .int x2] [.int 1] (cd f A R wr) _
        refine pz_if_eq (off := 12) (t := 16) (by decide +kernel) (by decide) rfl kz_1 (fun h19 => by omega) (fun h19 => ?_)
        refine pe_aloadX_n (j := 0) (by decide +kernel) rfl ?_
        refine pe_getT1 (k := 9) (by decide +kernel) (hX 20 (by decide +kernel)) (by decide +kernel) ?_
        refine pe_iload_n (j := 1) (by decide +kernel) rfl ?_
        refine pi_S (j := 495) (mj := 37) (by decide +kernel) (by decide +kernel) rfl ?_
        show pmE pg X pg_tyl pg_cl (d + 3) 37 0 [.retAddr 21, .int x2] [] (cd f A R wr) _
        refine pe_iload_n (j := 1) (by decide +kernel) rfl ?_
        refine pe_aloadX_n (j := 0) (by decide +kernel) rfl ?_
        refine pe_alenXv (v := 3) (by decide +kernel) (hX 21 (by decide +kernel)) (by decide +kernel) (by decide +kernel) ?_
        refine pi_S (j := 9) (mj := 38) (by decide +kernel) (by decide +kernel) rfl ?_
        show pmE pg X pg_tyl pg_cl (d + 2) 38 0 [.int x2, .int 3] [] (cd f A R wr) _
        refine pe_iload_n (j := 0) (by decide +kernel) rfl ?_
        refine pe_iload_n (j := 1) (by decide +kernel) rfl ?_
        refine pe_getstatic (j := 1053) (v := .retAddr 99) (by decide +kernel) (by decide +kernel) ?_
        refine pi_S (j := 1059) (mj := 39) (by decide +kernel) (by decide +kernel) rfl ?_
        show pmE pg X pg_tyl pg_cl (d + 1) 39 0 [.int x2, .int 3, .retAddr 99] [] (cd f A R wr) _
        refine pe_iload_n (j := 0) (by decide +kernel) rfl ?_
        refine pz_if_lt (off := 8) (t := 9) (by decide +kernel) (by decide) rfl rfl (fun h20 => by omega) (fun h20 => ?_)
        refine pe_iload_n (j := 0) (by decide +kernel) rfl ?_
        refine pe_iload_n (j := 1) (by decide +kernel) rfl ?_
        refine pz_icmp_lt (off := 10) (t := 16) (by decide +kernel) (by decide) rfl rfl kz_3 (fun h21 => ?_) (fun h21 => by omega)
        refine pe_iload_n (j := 0) (by decide +kernel) rfl ?_
        refine pe_iret (by decide +kernel) rfl rfl ⟨rfl, rfl, ?_⟩
        show pmE pg X pg_tyl pg_cl (d + 2) 38 8 [.int x2, .int 3] [.int x2] (cd f A R wr) _
        refine pe_pop (by decide +kernel) rfl ?_
        refine pe_vret (by decide +kernel) rfl ⟨rfl, rfl, ?_⟩
        show pmE pg X pg_tyl pg_cl (d + 3) 37 6 [.retAddr 21, .int x2] [] (cd f A R wr) _
        refine pe_aloadX_n (j := 0) (by decide +kernel) rfl ?_
        refine pe_iload_n (j := 1) (by decide +kernel) rfl ?_
        refine pz_baldX (by decide +kernel) (hX 21 (by decide +kernel)) rfl rfl (by omega) (by omega) (fun v22 ev22 => ?_)
        have rv22 : 0 ≤ v22.toInt ∧ v22.toInt ≤ 119 := by rw [ev22]; exact lt_all (by decide +kernel) (by decide) _
        refine pe_sipushv (n := 255) (v := 255) (by decide +kernel) (by decide +kernel) ?_
        refine pz_and255 (by decide +kernel) (fun z23 hz23 => ?_)
        refine pz_i2c (by decide +kernel) rfl (by omega) (by omega) (fun z24 hz24 => ?_)
        rw [hz24]
        refine pe_iret (by decide +kernel) rfl (nz_c (by omega)) ⟨rfl, rfl, ?_⟩
        show pmE pg X pg_tyl pg_cl (d + 4) 35 15 [.retAddr 20, .int x2] [.int z23] (cd f A R wr) _
        refine pe_iret (by decide +kernel) rfl (nz_c (by omega)) ⟨rfl, rfl, ?_⟩
        show pmE pg X pg_tyl pg_cl (d + 5) 32 43 [.ref 23, .retAddr 20, .int x2] [.int z23, .int v16] (cd f A R wr) _
        refine pz_icmp_eq (off := 5) (t := 48) (by decide +kernel) (by decide) rfl rfl rfl (fun h25 => ?_) (fun h25 => ?_)
        · skip
          refine pz_iinc (j := 2) (n := 1) (by decide +kernel) rfl rfl (by decide +kernel) (by omega) (by omega) (fun z26 hz26 => ?_)
          show pmE pg X pg_tyl pg_cl (d + 5) 32 51 [.ref 23, .retAddr 20, .int z26] [] (cd f A R wr) _
          refine pe_goto (off := (-31)) (t := 20) (by decide +kernel) (by decide) rfl ?_
          exact ih z26 (by omega) (by omega)
        · skip
          refine pe_iconstv (n := 0) (v := 0) (by decide +kernel) (by decide +kernel) ?_
          exact pe_iret (by decide +kernel) rfl rfl kr_0
set_option maxRecDepth 100000 in
set_option maxHeartbeats 8000000 in
theorem CM_32 {X : pm_X} {d : Nat} {wr : pm_W} {f : Nat → Int32} {A : Nat → List Int32} {R : Nat → Value} (hX : XO X) (hI : CI f A R) (hR4 : R 4 = .ref 4) : pmE pg X pg_tyl pg_cl (d + 5) 32 0 (pm_ent (pm_max pg 32) [.ref 23, .retAddr 20]) [] (cd f A R wr) (fun q => ∃ (r : Int32), q = (some (.int r), cd f A R wr, 0, 0) ∧ ((r = 0 ∧ True) ∨ (r = 1 ∧ True))) := by
  show pmE pg X pg_tyl pg_cl (d + 5) 32 0 [.ref 23, .retAddr 20, pm_dead] [] (cd f A R wr) _
  refine pe_aload_n (j := 0) (by decide +kernel) rfl ?_
  refine pe_get (j := 47) (ci := 4) (n := 5) (by decide +kernel) (by decide +kernel) cd_o23 rfl ?_
  have hr_f_373 := cf_373 hI
  refine pe_aload_n (j := 0) (by decide +kernel) rfl ?_
  refine pe_get (j := 69) (ci := 4) (n := 7) (by decide +kernel) (by decide +kernel) cd_o23 rfl ?_
  have hr_f_375 := cf_375 hI
  refine pz_sub (by decide +kernel) rfl rfl (by omega) (by omega) (fun z1 hz1 => ?_)
  refine pe_aloadX_n (j := 1) (by decide +kernel) rfl ?_
  refine pi_V (j := 179) (mj := 33) (by decide +kernel) (cll_T (args := []) (n := 0) (by decide +kernel) rfl rfl (hX 20 (by decide +kernel)) (by decide +kernel) (Nat.le_of_ble_eq_true rfl) (Nat.le_of_ble_eq_true rfl)) ?_
  show pmE pg X pg_tyl pg_cl (d + 4) 33 0 [.retAddr 20] [] (cd f A R wr) _
  refine pe_aloadX_n (j := 0) (by decide +kernel) rfl ?_
  refine pe_getT1 (k := 9) (by decide +kernel) (hX 20 (by decide +kernel)) (by decide +kernel) ?_
  refine pe_alenXv (v := 3) (by decide +kernel) (hX 21 (by decide +kernel)) (by decide +kernel) (by decide +kernel) ?_
  refine pe_aloadX_n (j := 0) (by decide +kernel) rfl ?_
  refine pi_V (j := 335) (mj := 34) (by decide +kernel) (cll_T (args := []) (n := 0) (by decide +kernel) rfl rfl (hX 20 (by decide +kernel)) (by decide +kernel) (Nat.le_of_ble_eq_true rfl) (Nat.le_of_ble_eq_true rfl)) ?_
  show pmE pg X pg_tyl pg_cl (d + 3) 34 0 [.retAddr 20] [] (cd f A R wr) _
  refine pe_getstatic (j := 38) (v := .int 1) (by decide +kernel) (by decide +kernel) ?_
  refine pz_if_eq (off := 10) (t := 13) (by decide +kernel) (by decide) rfl kz_1 (fun h2 => by omega) (fun h2 => ?_)
  refine pe_aloadX_n (j := 0) (by decide +kernel) rfl ?_
  refine pe_getT0 (k := 15) (by decide +kernel) (hX 20 (by decide +kernel)) (by decide +kernel) ?_
  refine pe_goto (off := 4) (t := 14) (by decide +kernel) (by decide) rfl ?_
  refine pe_iret (by decide +kernel) rfl (by decide +kernel) ⟨rfl, rfl, ?_⟩
  show pmE pg X pg_tyl pg_cl (d + 4) 33 9 [.retAddr 20] [.int 0, .int 3] (cd f A R wr) _
  refine pe_ishr (by decide +kernel) ?_
  refine pe_top (v := 3) (by decide +kernel) ?_
  refine pe_iret (by decide +kernel) rfl rfl ⟨rfl, rfl, ?_⟩
  show pmE pg X pg_tyl pg_cl (d + 5) 32 13 [.ref 23, .retAddr 20, pm_dead] [.int 3, .int z1] (cd f A R wr) _
  refine pz_icmp_eq (off := 5) (t := 18) (by decide +kernel) (by decide) rfl hz1 kz_3 (fun h4 => ?_) (fun h4 => ?_)
  · skip
    clear hz1
    refine pe_iconstv (n := 0) (v := 0) (by decide +kernel) (by decide +kernel) ?_
    refine pe_istore_n (j := 2) (ls' := [.ref 23, .retAddr 20, .int 0]) (by decide +kernel) (Nat.le_of_ble_eq_true rfl) rfl ?_
    refine CL_32_20 hX hI (hR4) (fun y5 gy5 => ?_) (⟨0, rfl, Or.inl ⟨rfl, trivial⟩⟩) 4 0 (by decide +kernel) (by decide +kernel)
    refine pe_iconstv (n := 1) (v := 1) (by decide +kernel) (by decide +kernel) ?_
    exact pe_iret (by decide +kernel) rfl rfl ⟨1, rfl, Or.inr (⟨rfl, trivial⟩)⟩
  · skip
    clear hz1
    refine pe_iconstv (n := 0) (v := 0) (by decide +kernel) (by decide +kernel) ?_
    exact pe_iret (by decide +kernel) rfl rfl ⟨0, rfl, Or.inl ⟨rfl, trivial⟩⟩
set_option maxRecDepth 100000 in
set_option maxHeartbeats 8000000 in
theorem CL_32_1_20 {X : pm_X} {d : Nat} {wr : pm_W} {Q : pm_R → Prop} {f : Nat → Int32} {A : Nat → List Int32} {R : Nat → Value} (hX : XO X) (hI : CI f A R) (hR4 : R 4 = .ref 4) (k_54_0 : ∀ (y2 : Int32), (3 ≤ y2.toInt ∧ y2.toInt ≤ 3) → pmE pg X pg_tyl pg_cl (d + 5) 32 54 [.ref 23, .retAddr 22, .int y2] [] (cd f A R wr) Q) (kr_0 : Q (some (.int 0), cd f A R wr, 0, 0)) : ∀ (m : Nat) (x2 : Int32), (0 ≤ x2.toInt ∧ x2.toInt ≤ 3) → 3 - x2.toInt < (m : Int) → pmE pg X pg_tyl pg_cl (d + 5) 32 20 [.ref 23, .retAddr 22, .int x2] [] (cd f A R wr) Q := by
  intro m
  induction m with
  | zero =>
    intro x2 gx2 hm
    exfalso
    have l0 := zi_lo x2
    have u0 := zi_hi x2
    omega
  | succ m ih =>
    intro x2 gx2 hm
    refine pe_iload_n (j := 2) (by decide +kernel) rfl ?_
    refine pe_aloadX_n (j := 1) (by decide +kernel) rfl ?_
    refine pi_V (j := 179) (mj := 33) (by decide +kernel) (cll_T (args := []) (n := 0) (by decide +kernel) rfl rfl (hX 22 (by decide +kernel)) (by decide +kernel) (Nat.le_of_ble_eq_true rfl) (Nat.le_of_ble_eq_true rfl)) ?_
    show pmE pg X pg_tyl pg_cl (d + 4) 33 0 [.retAddr 22] [] (cd f A R wr) _
    refine pe_aloadX_n (j := 0) (by decide +kernel) rfl ?_
    refine pe_getT1 (k := 9) (by decide +kernel) (hX 22 (by decide +kernel)) (by decide +kernel) ?_
    refine pe_alenXv (v := 3) (by decide +kernel) (hX 23 (by decide +kernel)) (by decide +kernel) (by decide +kernel) ?_
    refine pe_aloadX_n (j := 0) (by decide +kernel) rfl ?_
    refine pi_V (j := 335) (mj := 34) (by decide +kernel) (cll_T (args := []) (n := 0) (by decide +kernel) rfl rfl (hX 22 (by decide +kernel)) (by decide +kernel) (Nat.le_of_ble_eq_true rfl) (Nat.le_of_ble_eq_true rfl)) ?_
    show pmE pg X pg_tyl pg_cl (d + 3) 34 0 [.retAddr 22] [] (cd f A R wr) _
    refine pe_getstatic (j := 38) (v := .int 1) (by decide +kernel) (by decide +kernel) ?_
    refine pz_if_eq (off := 10) (t := 13) (by decide +kernel) (by decide) rfl kz_1 (fun h1 => by omega) (fun h1 => ?_)
    refine pe_aloadX_n (j := 0) (by decide +kernel) rfl ?_
    refine pe_getT0 (k := 15) (by decide +kernel) (hX 22 (by decide +kernel)) (by decide +kernel) ?_
    refine pe_goto (off := 4) (t := 14) (by decide +kernel) (by decide) rfl ?_
    refine pe_iret (by decide +kernel) rfl (by decide +kernel) ⟨rfl, rfl, ?_⟩
    show pmE pg X pg_tyl pg_cl (d + 4) 33 9 [.retAddr 22] [.int 0, .int 3] (cd f A R wr) _
    refine pe_ishr (by decide +kernel) ?_
    refine pe_top (v := 3) (by decide +kernel) ?_
    refine pe_iret (by decide +kernel) rfl rfl ⟨rfl, rfl, ?_⟩
    show pmE pg X pg_tyl pg_cl (d + 5) 32 25 [.ref 23, .retAddr 22, .int x2] [.int 3, .int x2] (cd f A R wr) _
    refine pz_icmp_ge (off := 29) (t := 54) (by decide +kernel) (by decide) rfl rfl kz_3 (fun h3 => ?_) (fun h3 => ?_)
    · skip
      exact k_54_0 x2 (by omega)
    · skip
      refine pe_aload_n (j := 0) (by decide +kernel) rfl ?_
      refine pe_aload_n (j := 0) (by decide +kernel) rfl ?_
      refine pe_get (j := 69) (ci := 4) (n := 7) (by decide +kernel) (by decide +kernel) cd_o23 rfl ?_
      have hr_f_375 := cf_375 hI
      refine pe_iload_n (j := 2) (by decide +kernel) rfl ?_
      refine pz_add (by decide +kernel) rfl rfl (by omega) (by omega) (fun z4 hz4 => ?_)
      refine pi_V (j := 184) (mj := 24) (by decide +kernel) (cll_V (args := [.int z4]) (n := 1) (by decide +kernel) rfl rfl cd_o23 (by decide +kernel) (Nat.le_of_ble_eq_true rfl) (Nat.le_of_ble_eq_true rfl)) ?_
      show pmE pg X pg_tyl pg_cl (d + 4) 24 0 [.ref 23, .int z4] [] (cd f A R wr) _
      refine pe_iload_n (j := 1) (by decide +kernel) rfl ?_
      refine pz_if_lt (off := 20) (t := 21) (by decide +kernel) (by decide) rfl hz4 (fun h5 => by omega) (fun h5 => ?_)
      refine pe_iload_n (j := 1) (by decide +kernel) rfl ?_
      refine pe_aload_n (j := 0) (by decide +kernel) rfl ?_
      refine pe_get (j := 43) (ci := 4) (n := 4) (by decide +kernel) (by decide +kernel) cd_o23 rfl ?_
      have hr_f_372 := cf_372 hI
      refine pz_icmp_ge (off := 12) (t := 21) (by decide +kernel) (by decide) rfl hz4 rfl (fun h6 => ?_) (fun h6 => ?_)
      · skip
        refine pe_iconstv (n := (-1)) (v := (-1)) (by decide +kernel) (by decide +kernel) ?_
        refine pe_iret (by decide +kernel) rfl rfl ⟨rfl, rfl, ?_⟩
        show pmE pg X pg_tyl pg_cl (d + 5) 32 38 [.ref 23, .retAddr 22, .int x2] [.int (-1)] (cd f A R wr) _
        refine pe_aloadX_n (j := 1) (by decide +kernel) rfl ?_
        refine pe_iload_n (j := 2) (by decide +kernel) rfl ?_
        refine pi_V (j := 187) (mj := 35) (by decide +kernel) (cll_T (args := [.int x2]) (n := 1) (by decide +kernel) rfl rfl (hX 22 (by decide +kernel)) (by decide +kernel) (Nat.le_of_ble_eq_true rfl) (Nat.le_of_ble_eq_true rfl)) ?_
        show pmE pg X pg_tyl pg_cl (d + 4) 35 0 [.retAddr 22, .int x2] [] (cd f A R wr) _
        refine pe_aloadX_n (j := 0) (by decide +kernel) rfl ?_
        refine pi_V (j := 492) (mj := 36) (by decide +kernel) (cll_T (args := []) (n := 0) (by decide +kernel) rfl rfl (hX 22 (by decide +kernel)) (by decide +kernel) (Nat.le_of_ble_eq_true rfl) (Nat.le_of_ble_eq_true rfl)) ?_
        show pmE pg X pg_tyl pg_cl (d + 3) 36 0 [.retAddr 22] [] (cd f A R wr) _
        refine pe_getstatic (j := 38) (v := .int 1) (by decide +kernel) (by decide +kernel) ?_
        refine pz_if_eq (off := 14) (t := 17) (by decide +kernel) (by decide) rfl kz_1 (fun h7 => by omega) (fun h7 => ?_)
        refine pe_aloadX_n (j := 0) (by decide +kernel) rfl ?_
        refine pe_getT0 (k := 15) (by decide +kernel) (hX 22 (by decide +kernel)) (by decide +kernel) ?_
        refine pz_if_ne (off := 7) (t := 17) (by decide +kernel) (by decide) rfl kz_0 (fun h8 => by omega) (fun h8 => ?_)
        refine pe_iconstv (n := 1) (v := 1) (by decide +kernel) (by decide +kernel) ?_
        refine pe_goto (off := 4) (t := 18) (by decide +kernel) (by decide) rfl ?_
        refine pe_iret (by decide +kernel) rfl rfl ⟨rfl, rfl, ?_⟩
        show pmE pg X pg_tyl pg_cl (d + 4) 35 4 [.retAddr 22, .int x2] [.int 1] (cd f A R wr) _
        refine pz_if_eq (off := 12) (t := 16) (by decide +kernel) (by decide) rfl kz_1 (fun h9 => by omega) (fun h9 => ?_)
        refine pe_aloadX_n (j := 0) (by decide +kernel) rfl ?_
        refine pe_getT1 (k := 9) (by decide +kernel) (hX 22 (by decide +kernel)) (by decide +kernel) ?_
        refine pe_iload_n (j := 1) (by decide +kernel) rfl ?_
        refine pi_S (j := 495) (mj := 37) (by decide +kernel) (by decide +kernel) rfl ?_
        show pmE pg X pg_tyl pg_cl (d + 3) 37 0 [.retAddr 23, .int x2] [] (cd f A R wr) _
        refine pe_iload_n (j := 1) (by decide +kernel) rfl ?_
        refine pe_aloadX_n (j := 0) (by decide +kernel) rfl ?_
        refine pe_alenXv (v := 3) (by decide +kernel) (hX 23 (by decide +kernel)) (by decide +kernel) (by decide +kernel) ?_
        refine pi_S (j := 9) (mj := 38) (by decide +kernel) (by decide +kernel) rfl ?_
        show pmE pg X pg_tyl pg_cl (d + 2) 38 0 [.int x2, .int 3] [] (cd f A R wr) _
        refine pe_iload_n (j := 0) (by decide +kernel) rfl ?_
        refine pe_iload_n (j := 1) (by decide +kernel) rfl ?_
        refine pe_getstatic (j := 1053) (v := .retAddr 99) (by decide +kernel) (by decide +kernel) ?_
        refine pi_S (j := 1059) (mj := 39) (by decide +kernel) (by decide +kernel) rfl ?_
        show pmE pg X pg_tyl pg_cl (d + 1) 39 0 [.int x2, .int 3, .retAddr 99] [] (cd f A R wr) _
        refine pe_iload_n (j := 0) (by decide +kernel) rfl ?_
        refine pz_if_lt (off := 8) (t := 9) (by decide +kernel) (by decide) rfl rfl (fun h10 => by omega) (fun h10 => ?_)
        refine pe_iload_n (j := 0) (by decide +kernel) rfl ?_
        refine pe_iload_n (j := 1) (by decide +kernel) rfl ?_
        refine pz_icmp_lt (off := 10) (t := 16) (by decide +kernel) (by decide) rfl rfl kz_3 (fun h11 => ?_) (fun h11 => by omega)
        refine pe_iload_n (j := 0) (by decide +kernel) rfl ?_
        refine pe_iret (by decide +kernel) rfl rfl ⟨rfl, rfl, ?_⟩
        show pmE pg X pg_tyl pg_cl (d + 2) 38 8 [.int x2, .int 3] [.int x2] (cd f A R wr) _
        refine pe_pop (by decide +kernel) rfl ?_
        refine pe_vret (by decide +kernel) rfl ⟨rfl, rfl, ?_⟩
        show pmE pg X pg_tyl pg_cl (d + 3) 37 6 [.retAddr 23, .int x2] [] (cd f A R wr) _
        refine pe_aloadX_n (j := 0) (by decide +kernel) rfl ?_
        refine pe_iload_n (j := 1) (by decide +kernel) rfl ?_
        refine pz_baldX (by decide +kernel) (hX 23 (by decide +kernel)) rfl rfl (by omega) (by omega) (fun v12 ev12 => ?_)
        have rv12 : 0 ≤ v12.toInt ∧ v12.toInt ≤ 121 := by rw [ev12]; exact lt_all (by decide +kernel) (by decide) _
        refine pe_sipushv (n := 255) (v := 255) (by decide +kernel) (by decide +kernel) ?_
        refine pz_and255 (by decide +kernel) (fun z13 hz13 => ?_)
        refine pz_i2c (by decide +kernel) rfl (by omega) (by omega) (fun z14 hz14 => ?_)
        rw [hz14]
        refine pe_iret (by decide +kernel) rfl (nz_c (by omega)) ⟨rfl, rfl, ?_⟩
        show pmE pg X pg_tyl pg_cl (d + 4) 35 15 [.retAddr 22, .int x2] [.int z13] (cd f A R wr) _
        refine pe_iret (by decide +kernel) rfl (nz_c (by omega)) ⟨rfl, rfl, ?_⟩
        show pmE pg X pg_tyl pg_cl (d + 5) 32 43 [.ref 23, .retAddr 22, .int x2] [.int z13, .int (-1)] (cd f A R wr) _
        refine pz_icmp_eq (off := 5) (t := 48) (by decide +kernel) (by decide) rfl kz_m1 rfl (fun h15 => by omega) (fun h15 => ?_)
        refine pe_iconstv (n := 0) (v := 0) (by decide +kernel) (by decide +kernel) ?_
        exact pe_iret (by decide +kernel) rfl rfl kr_0
      · skip
        refine pe_aload_n (j := 0) (by decide +kernel) rfl ?_
        refine pe_get (j := 29) (ci := 4) (n := 3) (by decide +kernel) (by decide +kernel) cd_o23 rfl ?_
        refine pe_topV (v := .ref 4) (hR4) ?_
        refine pe_iload_n (j := 1) (by decide +kernel) rfl ?_
        refine pz_bald (by decide +kernel) cd_a4 (cl_4 hI) hz4 (by omega) (by omega) (fun v16 ev16 => ?_)
        have rv16 : (-128) ≤ v16.toInt ∧ v16.toInt ≤ 127 := ct_4 hI ev16
        refine pe_goto (off := 4) (t := 22) (by decide +kernel) (by decide) rfl ?_
        refine pe_iret (by decide +kernel) rfl rfl ⟨rfl, rfl, ?_⟩
        show pmE pg X pg_tyl pg_cl (d + 5) 32 38 [.ref 23, .retAddr 22, .int x2] [.int v16] (cd f A R wr) _
        refine pe_aloadX_n (j := 1) (by decide +kernel) rfl ?_
        refine pe_iload_n (j := 2) (by decide +kernel) rfl ?_
        refine pi_V (j := 187) (mj := 35) (by decide +kernel) (cll_T (args := [.int x2]) (n := 1) (by decide +kernel) rfl rfl (hX 22 (by decide +kernel)) (by decide +kernel) (Nat.le_of_ble_eq_true rfl) (Nat.le_of_ble_eq_true rfl)) ?_
        show pmE pg X pg_tyl pg_cl (d + 4) 35 0 [.retAddr 22, .int x2] [] (cd f A R wr) _
        refine pe_aloadX_n (j := 0) (by decide +kernel) rfl ?_
        refine pi_V (j := 492) (mj := 36) (by decide +kernel) (cll_T (args := []) (n := 0) (by decide +kernel) rfl rfl (hX 22 (by decide +kernel)) (by decide +kernel) (Nat.le_of_ble_eq_true rfl) (Nat.le_of_ble_eq_true rfl)) ?_
        show pmE pg X pg_tyl pg_cl (d + 3) 36 0 [.retAddr 22] [] (cd f A R wr) _
        refine pe_getstatic (j := 38) (v := .int 1) (by decide +kernel) (by decide +kernel) ?_
        refine pz_if_eq (off := 14) (t := 17) (by decide +kernel) (by decide) rfl kz_1 (fun h17 => by omega) (fun h17 => ?_)
        refine pe_aloadX_n (j := 0) (by decide +kernel) rfl ?_
        refine pe_getT0 (k := 15) (by decide +kernel) (hX 22 (by decide +kernel)) (by decide +kernel) ?_
        refine pz_if_ne (off := 7) (t := 17) (by decide +kernel) (by decide) rfl kz_0 (fun h18 => by omega) (fun h18 => ?_)
        refine pe_iconstv (n := 1) (v := 1) (by decide +kernel) (by decide +kernel) ?_
        refine pe_goto (off := 4) (t := 18) (by decide +kernel) (by decide) rfl ?_
        refine pe_iret (by decide +kernel) rfl rfl ⟨rfl, rfl, ?_⟩
        show pmE pg X pg_tyl pg_cl (d + 4) 35 4 [.retAddr 22, .int x2] [.int 1] (cd f A R wr) _
        refine pz_if_eq (off := 12) (t := 16) (by decide +kernel) (by decide) rfl kz_1 (fun h19 => by omega) (fun h19 => ?_)
        refine pe_aloadX_n (j := 0) (by decide +kernel) rfl ?_
        refine pe_getT1 (k := 9) (by decide +kernel) (hX 22 (by decide +kernel)) (by decide +kernel) ?_
        refine pe_iload_n (j := 1) (by decide +kernel) rfl ?_
        refine pi_S (j := 495) (mj := 37) (by decide +kernel) (by decide +kernel) rfl ?_
        show pmE pg X pg_tyl pg_cl (d + 3) 37 0 [.retAddr 23, .int x2] [] (cd f A R wr) _
        refine pe_iload_n (j := 1) (by decide +kernel) rfl ?_
        refine pe_aloadX_n (j := 0) (by decide +kernel) rfl ?_
        refine pe_alenXv (v := 3) (by decide +kernel) (hX 23 (by decide +kernel)) (by decide +kernel) (by decide +kernel) ?_
        refine pi_S (j := 9) (mj := 38) (by decide +kernel) (by decide +kernel) rfl ?_
        show pmE pg X pg_tyl pg_cl (d + 2) 38 0 [.int x2, .int 3] [] (cd f A R wr) _
        refine pe_iload_n (j := 0) (by decide +kernel) rfl ?_
        refine pe_iload_n (j := 1) (by decide +kernel) rfl ?_
        refine pe_getstatic (j := 1053) (v := .retAddr 99) (by decide +kernel) (by decide +kernel) ?_
        refine pi_S (j := 1059) (mj := 39) (by decide +kernel) (by decide +kernel) rfl ?_
        show pmE pg X pg_tyl pg_cl (d + 1) 39 0 [.int x2, .int 3, .retAddr 99] [] (cd f A R wr) _
        refine pe_iload_n (j := 0) (by decide +kernel) rfl ?_
        refine pz_if_lt (off := 8) (t := 9) (by decide +kernel) (by decide) rfl rfl (fun h20 => by omega) (fun h20 => ?_)
        refine pe_iload_n (j := 0) (by decide +kernel) rfl ?_
        refine pe_iload_n (j := 1) (by decide +kernel) rfl ?_
        refine pz_icmp_lt (off := 10) (t := 16) (by decide +kernel) (by decide) rfl rfl kz_3 (fun h21 => ?_) (fun h21 => by omega)
        refine pe_iload_n (j := 0) (by decide +kernel) rfl ?_
        refine pe_iret (by decide +kernel) rfl rfl ⟨rfl, rfl, ?_⟩
        show pmE pg X pg_tyl pg_cl (d + 2) 38 8 [.int x2, .int 3] [.int x2] (cd f A R wr) _
        refine pe_pop (by decide +kernel) rfl ?_
        refine pe_vret (by decide +kernel) rfl ⟨rfl, rfl, ?_⟩
        show pmE pg X pg_tyl pg_cl (d + 3) 37 6 [.retAddr 23, .int x2] [] (cd f A R wr) _
        refine pe_aloadX_n (j := 0) (by decide +kernel) rfl ?_
        refine pe_iload_n (j := 1) (by decide +kernel) rfl ?_
        refine pz_baldX (by decide +kernel) (hX 23 (by decide +kernel)) rfl rfl (by omega) (by omega) (fun v22 ev22 => ?_)
        have rv22 : 0 ≤ v22.toInt ∧ v22.toInt ≤ 121 := by rw [ev22]; exact lt_all (by decide +kernel) (by decide) _
        refine pe_sipushv (n := 255) (v := 255) (by decide +kernel) (by decide +kernel) ?_
        refine pz_and255 (by decide +kernel) (fun z23 hz23 => ?_)
        refine pz_i2c (by decide +kernel) rfl (by omega) (by omega) (fun z24 hz24 => ?_)
        rw [hz24]
        refine pe_iret (by decide +kernel) rfl (nz_c (by omega)) ⟨rfl, rfl, ?_⟩
        show pmE pg X pg_tyl pg_cl (d + 4) 35 15 [.retAddr 22, .int x2] [.int z23] (cd f A R wr) _
        refine pe_iret (by decide +kernel) rfl (nz_c (by omega)) ⟨rfl, rfl, ?_⟩
        show pmE pg X pg_tyl pg_cl (d + 5) 32 43 [.ref 23, .retAddr 22, .int x2] [.int z23, .int v16] (cd f A R wr) _
        refine pz_icmp_eq (off := 5) (t := 48) (by decide +kernel) (by decide) rfl rfl rfl (fun h25 => ?_) (fun h25 => ?_)
        · skip
          refine pz_iinc (j := 2) (n := 1) (by decide +kernel) rfl rfl (by decide +kernel) (by omega) (by omega) (fun z26 hz26 => ?_)
          show pmE pg X pg_tyl pg_cl (d + 5) 32 51 [.ref 23, .retAddr 22, .int z26] [] (cd f A R wr) _
          refine pe_goto (off := (-31)) (t := 20) (by decide +kernel) (by decide) rfl ?_
          exact ih z26 (by omega) (by omega)
        · skip
          refine pe_iconstv (n := 0) (v := 0) (by decide +kernel) (by decide +kernel) ?_
          exact pe_iret (by decide +kernel) rfl rfl kr_0
set_option maxRecDepth 100000 in
set_option maxHeartbeats 8000000 in
theorem CM_32_1 {X : pm_X} {d : Nat} {wr : pm_W} {f : Nat → Int32} {A : Nat → List Int32} {R : Nat → Value} (hX : XO X) (hI : CI f A R) (hR4 : R 4 = .ref 4) : pmE pg X pg_tyl pg_cl (d + 5) 32 0 (pm_ent (pm_max pg 32) [.ref 23, .retAddr 22]) [] (cd f A R wr) (fun q => ∃ (r : Int32), q = (some (.int r), cd f A R wr, 0, 0) ∧ ((r = 0 ∧ True) ∨ (r = 1 ∧ True))) := by
  show pmE pg X pg_tyl pg_cl (d + 5) 32 0 [.ref 23, .retAddr 22, pm_dead] [] (cd f A R wr) _
  refine pe_aload_n (j := 0) (by decide +kernel) rfl ?_
  refine pe_get (j := 47) (ci := 4) (n := 5) (by decide +kernel) (by decide +kernel) cd_o23 rfl ?_
  have hr_f_373 := cf_373 hI
  refine pe_aload_n (j := 0) (by decide +kernel) rfl ?_
  refine pe_get (j := 69) (ci := 4) (n := 7) (by decide +kernel) (by decide +kernel) cd_o23 rfl ?_
  have hr_f_375 := cf_375 hI
  refine pz_sub (by decide +kernel) rfl rfl (by omega) (by omega) (fun z1 hz1 => ?_)
  refine pe_aloadX_n (j := 1) (by decide +kernel) rfl ?_
  refine pi_V (j := 179) (mj := 33) (by decide +kernel) (cll_T (args := []) (n := 0) (by decide +kernel) rfl rfl (hX 22 (by decide +kernel)) (by decide +kernel) (Nat.le_of_ble_eq_true rfl) (Nat.le_of_ble_eq_true rfl)) ?_
  show pmE pg X pg_tyl pg_cl (d + 4) 33 0 [.retAddr 22] [] (cd f A R wr) _
  refine pe_aloadX_n (j := 0) (by decide +kernel) rfl ?_
  refine pe_getT1 (k := 9) (by decide +kernel) (hX 22 (by decide +kernel)) (by decide +kernel) ?_
  refine pe_alenXv (v := 3) (by decide +kernel) (hX 23 (by decide +kernel)) (by decide +kernel) (by decide +kernel) ?_
  refine pe_aloadX_n (j := 0) (by decide +kernel) rfl ?_
  refine pi_V (j := 335) (mj := 34) (by decide +kernel) (cll_T (args := []) (n := 0) (by decide +kernel) rfl rfl (hX 22 (by decide +kernel)) (by decide +kernel) (Nat.le_of_ble_eq_true rfl) (Nat.le_of_ble_eq_true rfl)) ?_
  show pmE pg X pg_tyl pg_cl (d + 3) 34 0 [.retAddr 22] [] (cd f A R wr) _
  refine pe_getstatic (j := 38) (v := .int 1) (by decide +kernel) (by decide +kernel) ?_
  refine pz_if_eq (off := 10) (t := 13) (by decide +kernel) (by decide) rfl kz_1 (fun h2 => by omega) (fun h2 => ?_)
  refine pe_aloadX_n (j := 0) (by decide +kernel) rfl ?_
  refine pe_getT0 (k := 15) (by decide +kernel) (hX 22 (by decide +kernel)) (by decide +kernel) ?_
  refine pe_goto (off := 4) (t := 14) (by decide +kernel) (by decide) rfl ?_
  refine pe_iret (by decide +kernel) rfl (by decide +kernel) ⟨rfl, rfl, ?_⟩
  show pmE pg X pg_tyl pg_cl (d + 4) 33 9 [.retAddr 22] [.int 0, .int 3] (cd f A R wr) _
  refine pe_ishr (by decide +kernel) ?_
  refine pe_top (v := 3) (by decide +kernel) ?_
  refine pe_iret (by decide +kernel) rfl rfl ⟨rfl, rfl, ?_⟩
  show pmE pg X pg_tyl pg_cl (d + 5) 32 13 [.ref 23, .retAddr 22, pm_dead] [.int 3, .int z1] (cd f A R wr) _
  refine pz_icmp_eq (off := 5) (t := 18) (by decide +kernel) (by decide) rfl hz1 kz_3 (fun h4 => ?_) (fun h4 => ?_)
  · skip
    clear hz1
    refine pe_iconstv (n := 0) (v := 0) (by decide +kernel) (by decide +kernel) ?_
    refine pe_istore_n (j := 2) (ls' := [.ref 23, .retAddr 22, .int 0]) (by decide +kernel) (Nat.le_of_ble_eq_true rfl) rfl ?_
    refine CL_32_1_20 hX hI (hR4) (fun y5 gy5 => ?_) (⟨0, rfl, Or.inl ⟨rfl, trivial⟩⟩) 4 0 (by decide +kernel) (by decide +kernel)
    refine pe_iconstv (n := 1) (v := 1) (by decide +kernel) (by decide +kernel) ?_
    exact pe_iret (by decide +kernel) rfl rfl ⟨1, rfl, Or.inr (⟨rfl, trivial⟩)⟩
  · skip
    clear hz1
    refine pe_iconstv (n := 0) (v := 0) (by decide +kernel) (by decide +kernel) ?_
    exact pe_iret (by decide +kernel) rfl rfl ⟨0, rfl, Or.inl ⟨rfl, trivial⟩⟩
