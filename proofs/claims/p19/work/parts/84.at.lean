set_option maxRecDepth 100000 in
set_option maxHeartbeats 8000000 in
theorem CM_atV {X : pm_X} {d : Nat} {wr : pm_W} {f : Nat → Int32} {A : Nat → List Int32} {R : Nat → Value} {x1 : Int32} (hI : CI f A R) : pmE pg X pg_tyl pg_cl d 60 0 (pm_ent (pm_max pg 60) [.ref 1, .int x1]) [] (cd f A R wr) (fun q => ∃ r : Value, q = (some r, cd f A R wr, 0, 0) ∧ (r = .null ∨ ∃ v : Nat, VV v ∧ r = .ref v)) := by
  show pmE pg X pg_tyl pg_cl d 60 0 [.ref 1, .int x1] [] (cd f A R wr) _
  refine pe_iload_n (j := 1) (by decide +kernel) rfl ?_
  have lw2 := zi_lo x1
  have uw2 := zi_hi x1
  refine pz_if_lt (off := 20) (t := 21) (by decide +kernel) (by decide) rfl rfl (fun h1 => ?_) (fun h1 => ?_)
  · skip
    refine pe_null (by decide +kernel) ?_
    exact pe_nret (by decide +kernel) rfl ⟨_, rfl, Or.inl rfl⟩
  · skip
    refine pe_iload_n (j := 1) (by decide +kernel) rfl ?_
    refine pe_aload_n (j := 0) (by decide +kernel) rfl ?_
    refine pe_get (j := 33) (ci := 8) (n := 2) (by decide +kernel) (by decide +kernel) cd_o1 rfl ?_
    have hr_f_18 := cf_18 hI
    refine pz_icmp_ge (off := 12) (t := 21) (by decide +kernel) (by decide) rfl rfl rfl (fun h3 => ?_) (fun h3 => ?_)
    · skip
      refine pe_null (by decide +kernel) ?_
      exact pe_nret (by decide +kernel) rfl ⟨_, rfl, Or.inl rfl⟩
    · skip
      refine pe_aload_n (j := 0) (by decide +kernel) rfl ?_
      refine pe_get (j := 11) (ci := 8) (n := 0) (by decide +kernel) (by decide +kernel) cd_o1 rfl ?_
      refine pe_iload_n (j := 1) (by decide +kernel) rfl ?_
      by_cases h4 : x1.toInt = 0
      · skip
        refine pz_aald (q := 5) (t := 3) (n := 2) (i := 0) (C := "RingVillage$Village") (by decide +kernel) cd_q2 rfl rfl rfl (by omega) (by decide +kernel) rfl ?_
        refine pe_goto (off := 4) (t := 22) (by decide +kernel) (by decide) rfl ?_
        exact pe_aret (by decide +kernel) rfl ⟨_, rfl, Or.inr ⟨_, Or.inl rfl, rfl⟩⟩
      · skip
        refine pz_aald (q := 10) (t := 3) (n := 2) (i := 1) (C := "RingVillage$Village") (by decide +kernel) cd_q2 rfl rfl rfl (by omega) (by decide +kernel) rfl ?_
        refine pe_goto (off := 4) (t := 22) (by decide +kernel) (by decide) rfl ?_
        exact pe_aret (by decide +kernel) rfl ⟨_, rfl, Or.inr ⟨_, Or.inr rfl, rfl⟩⟩
set_option maxRecDepth 100000 in
set_option maxHeartbeats 8000000 in
theorem CM_atR {X : pm_X} {d : Nat} {wr : pm_W} {f : Nat → Int32} {A : Nat → List Int32} {R : Nat → Value} {x1 : Int32} (hI : CI f A R) : pmE pg X pg_tyl pg_cl d 67 0 (pm_ent (pm_max pg 67) [.ref 1, .int x1]) [] (cd f A R wr) (fun q => ∃ r : Value, q = (some r, cd f A R wr, 0, 0) ∧ (r = .null ∨ ∃ v : Nat, RR v ∧ r = .ref v)) := by
  show pmE pg X pg_tyl pg_cl d 67 0 [.ref 1, .int x1] [] (cd f A R wr) _
  refine pe_iload_n (j := 1) (by decide +kernel) rfl ?_
  have lw2 := zi_lo x1
  have uw2 := zi_hi x1
  refine pz_if_lt (off := 20) (t := 21) (by decide +kernel) (by decide) rfl rfl (fun h1 => ?_) (fun h1 => ?_)
  · skip
    refine pe_null (by decide +kernel) ?_
    exact pe_nret (by decide +kernel) rfl ⟨_, rfl, Or.inl rfl⟩
  · skip
    refine pe_iload_n (j := 1) (by decide +kernel) rfl ?_
    refine pe_aload_n (j := 0) (by decide +kernel) rfl ?_
    refine pe_get (j := 36) (ci := 8) (n := 3) (by decide +kernel) (by decide +kernel) cd_o1 rfl ?_
    have hr_f_19 := cf_19 hI
    refine pz_icmp_ge (off := 12) (t := 21) (by decide +kernel) (by decide) rfl rfl rfl (fun h3 => ?_) (fun h3 => ?_)
    · skip
      refine pe_null (by decide +kernel) ?_
      exact pe_nret (by decide +kernel) rfl ⟨_, rfl, Or.inl rfl⟩
    · skip
      refine pe_aload_n (j := 0) (by decide +kernel) rfl ?_
      refine pe_get (j := 19) (ci := 8) (n := 1) (by decide +kernel) (by decide +kernel) cd_o1 rfl ?_
      refine pe_iload_n (j := 1) (by decide +kernel) rfl ?_
      by_cases h4 : x1.toInt = 0
      · skip
        refine pz_aald (q := 15) (t := 4) (n := 3) (i := 0) (C := "RingVillage$Row") (by decide +kernel) cd_q3 rfl rfl rfl (by omega) (by decide +kernel) rfl ?_
        refine pe_goto (off := 4) (t := 22) (by decide +kernel) (by decide) rfl ?_
        exact pe_aret (by decide +kernel) rfl ⟨_, rfl, Or.inr ⟨_, Or.inl rfl, rfl⟩⟩
      · skip
        by_cases h5 : x1.toInt = 1
        · skip
          refine pz_aald (q := 17) (t := 4) (n := 3) (i := 1) (C := "RingVillage$Row") (by decide +kernel) cd_q3 rfl rfl rfl (by omega) (by decide +kernel) rfl ?_
          refine pe_goto (off := 4) (t := 22) (by decide +kernel) (by decide) rfl ?_
          exact pe_aret (by decide +kernel) rfl ⟨_, rfl, Or.inr ⟨_, Or.inr (Or.inl rfl), rfl⟩⟩
        · skip
          refine pz_aald (q := 19) (t := 4) (n := 3) (i := 2) (C := "RingVillage$Row") (by decide +kernel) cd_q3 rfl rfl rfl (by omega) (by decide +kernel) rfl ?_
          refine pe_goto (off := 4) (t := 22) (by decide +kernel) (by decide) rfl ?_
          exact pe_aret (by decide +kernel) rfl ⟨_, rfl, Or.inr ⟨_, Or.inr (Or.inr rfl), rfl⟩⟩
