set_option maxRecDepth 100000 in
set_option maxHeartbeats 8000000 in
theorem LC_17 {xs : List Int32} {Q : pm_R → Prop} {f : Nat → Int32} {A : Nat → List Int32} {R : Nat → Value} {g : Nat → Int32} {B : Nat → List Int32} {x3 : Int32} (h3 : 0 ≤ x3.toInt) (h4 : x3.toInt + 7 ≤ xs.length) (hl : xs.length ≤ 3584) (hS : ST f A R g B) (kk : ∀ (f' : Nat → Int32) (A' : Nat → List Int32) (R' : Nat → Value) (g' : Nat → Int32) (B' : Nat → List Int32), ST f' A' R' g' B' → pmE pg (pg_X xs) pg_tyl pg_cl 41 318 2476 [.retAddr 0, .ref 0, .ref 147, .int x3] [] (cd f' A' R' (em g' B')) Q) : pmE pg (pg_X xs) pg_tyl pg_cl 41 318 999 [.retAddr 0, .ref 0, .ref 147, .int x3] [] (cd f A R (em g B)) Q := by
  obtain ⟨hC, hM, hR⟩ := hS
  refine pe_aload_n (j := 1) (by decide +kernel) rfl ?_
  refine pe_aloadX_n (j := 0) (by decide +kernel) rfl ?_
  refine pe_iload_n (j := 3) (by decide +kernel) rfl ?_
  refine pe_iconstv (n := 1) (v := 1) (by decide +kernel) (by decide +kernel) ?_
  refine pz_add (by decide +kernel) rfl kz_1 (by omega) (by omega) (fun z1 hz1 => ?_)
  refine pz_ialdX (n := xs.length) (by decide +kernel) (show pg_X xs 0 = some (0, xs, 0) from rfl) rfl hz1 (by omega) (by omega) (fun v2 ev2 => ?_)
  clear hz1
  refine pe_aloadX_n (j := 0) (by decide +kernel) rfl ?_
  refine pe_iload_n (j := 3) (by decide +kernel) rfl ?_
  refine pe_iconstv (n := 2) (v := 2) (by decide +kernel) (by decide +kernel) ?_
  refine pz_add (by decide +kernel) rfl kz_2 (by omega) (by omega) (fun z3 hz3 => ?_)
  refine pz_ialdX (n := xs.length) (by decide +kernel) (show pg_X xs 0 = some (0, xs, 0) from rfl) rfl hz3 (by omega) (by omega) (fun v4 ev4 => ?_)
  clear hz3
  refine pe_aloadX_n (j := 0) (by decide +kernel) rfl ?_
  refine pe_iload_n (j := 3) (by decide +kernel) rfl ?_
  refine pe_iconstv (n := 3) (v := 3) (by decide +kernel) (by decide +kernel) ?_
  refine pz_add (by decide +kernel) rfl kz_3 (by omega) (by omega) (fun z5 hz5 => ?_)
  refine pz_ialdX (n := xs.length) (by decide +kernel) (show pg_X xs 0 = some (0, xs, 0) from rfl) rfl hz5 (by omega) (by omega) (fun v6 ev6 => ?_)
  clear hz5
  refine pe_aloadX_n (j := 0) (by decide +kernel) rfl ?_
  refine pe_iload_n (j := 3) (by decide +kernel) rfl ?_
  refine pe_iconstv (n := 4) (v := 4) (by decide +kernel) (by decide +kernel) ?_
  refine pz_add (by decide +kernel) rfl kz_4 (by omega) (by omega) (fun z7 hz7 => ?_)
  refine pz_ialdX (n := xs.length) (by decide +kernel) (show pg_X xs 0 = some (0, xs, 0) from rfl) rfl hz7 (by omega) (by omega) (fun v8 ev8 => ?_)
  clear hz7
  refine pe_aloadX_n (j := 0) (by decide +kernel) rfl ?_
  refine pe_iload_n (j := 3) (by decide +kernel) rfl ?_
  refine pe_iconstv (n := 5) (v := 5) (by decide +kernel) (by decide +kernel) ?_
  refine pz_add (by decide +kernel) rfl kz_5 (by omega) (by omega) (fun z9 hz9 => ?_)
  refine pz_ialdX (n := xs.length) (by decide +kernel) (show pg_X xs 0 = some (0, xs, 0) from rfl) rfl hz9 (by omega) (by omega) (fun v10 ev10 => ?_)
  clear hz9
  refine pe_aloadX_n (j := 0) (by decide +kernel) rfl ?_
  refine pe_iload_n (j := 3) (by decide +kernel) rfl ?_
  refine pe_bipushv (n := 6) (v := 6) (by decide +kernel) (by decide +kernel) ?_
  refine pz_add (by decide +kernel) rfl kz_6 (by omega) (by omega) (fun z11 hz11 => ?_)
  refine pz_ialdX (n := xs.length) (by decide +kernel) (show pg_X xs 0 = some (0, xs, 0) from rfl) rfl hz11 (by omega) (by omega) (fun v12 ev12 => ?_)
  clear hz11
  refine pz_if_eq (off := 7) (t := 1038) (by decide +kernel) (by decide) rfl rfl (fun h13 => ?_) (fun h13 => ?_)
  · skip
    refine pe_iconstv (n := 0) (v := 0) (by decide +kernel) (by decide +kernel) ?_
    refine pz_callV (j := 88) (mj := 139) (by decide +kernel) (cll_V (args := [.int 0, .int v10, .int v8, .int v6, .int v4, .int v2]) (n := 6) (by decide +kernel) rfl rfl cd_o0 (by decide +kernel) (Nat.le_of_ble_eq_true rfl) (Nat.le_of_ble_eq_true rfl)) (CM_139 st_XO hC) (fun q14a q14b q14c q14d hqq14 => ?_)
    obtain ⟨f15, A16, R17, lq14, eq14, hIq14, hGq14, hFq14, hHq14, kq14⟩ := hqq14
    cases eq14
    refine ⟨rfl, rfl, ?_⟩
    show pmE pg (pg_X xs) pg_tyl pg_cl 41 318 1042 [.retAddr 0, .ref 0, .ref 147, .int x3] [.long lq14] (cd f15 A16 R17 (em g B)) _
    refine pe_pop2 (by decide +kernel) rfl ?_
    refine pe_aload_n (j := 2) (by decide +kernel) rfl ?_
    refine pe_aloadX_n (j := 0) (by decide +kernel) rfl ?_
    refine pe_iload_n (j := 3) (by decide +kernel) rfl ?_
    refine pe_iconstv (n := 1) (v := 1) (by decide +kernel) (by decide +kernel) ?_
    refine pz_add (by decide +kernel) rfl kz_1 (by omega) (by omega) (fun z18 hz18 => ?_)
    refine pz_ialdX (n := xs.length) (by decide +kernel) (show pg_X xs 0 = some (0, xs, 0) from rfl) rfl hz18 (by omega) (by omega) (fun v19 ev19 => ?_)
    clear hz18
    refine pe_aloadX_n (j := 0) (by decide +kernel) rfl ?_
    refine pe_iload_n (j := 3) (by decide +kernel) rfl ?_
    refine pe_iconstv (n := 2) (v := 2) (by decide +kernel) (by decide +kernel) ?_
    refine pz_add (by decide +kernel) rfl kz_2 (by omega) (by omega) (fun z20 hz20 => ?_)
    refine pz_ialdX (n := xs.length) (by decide +kernel) (show pg_X xs 0 = some (0, xs, 0) from rfl) rfl hz20 (by omega) (by omega) (fun v21 ev21 => ?_)
    clear hz20
    refine pe_aloadX_n (j := 0) (by decide +kernel) rfl ?_
    refine pe_iload_n (j := 3) (by decide +kernel) rfl ?_
    refine pe_iconstv (n := 3) (v := 3) (by decide +kernel) (by decide +kernel) ?_
    refine pz_add (by decide +kernel) rfl kz_3 (by omega) (by omega) (fun z22 hz22 => ?_)
    refine pz_ialdX (n := xs.length) (by decide +kernel) (show pg_X xs 0 = some (0, xs, 0) from rfl) rfl hz22 (by omega) (by omega) (fun v23 ev23 => ?_)
    clear hz22
    refine pe_aloadX_n (j := 0) (by decide +kernel) rfl ?_
    refine pe_iload_n (j := 3) (by decide +kernel) rfl ?_
    refine pe_iconstv (n := 4) (v := 4) (by decide +kernel) (by decide +kernel) ?_
    refine pz_add (by decide +kernel) rfl kz_4 (by omega) (by omega) (fun z24 hz24 => ?_)
    refine pz_ialdX (n := xs.length) (by decide +kernel) (show pg_X xs 0 = some (0, xs, 0) from rfl) rfl hz24 (by omega) (by omega) (fun v25 ev25 => ?_)
    clear hz24
    refine pe_aloadX_n (j := 0) (by decide +kernel) rfl ?_
    refine pe_iload_n (j := 3) (by decide +kernel) rfl ?_
    refine pe_iconstv (n := 5) (v := 5) (by decide +kernel) (by decide +kernel) ?_
    refine pz_add (by decide +kernel) rfl kz_5 (by omega) (by omega) (fun z26 hz26 => ?_)
    refine pz_ialdX (n := xs.length) (by decide +kernel) (show pg_X xs 0 = some (0, xs, 0) from rfl) rfl hz26 (by omega) (by omega) (fun v27 ev27 => ?_)
    clear hz26
    refine pe_aloadX_n (j := 0) (by decide +kernel) rfl ?_
    refine pe_iload_n (j := 3) (by decide +kernel) rfl ?_
    refine pe_bipushv (n := 6) (v := 6) (by decide +kernel) (by decide +kernel) ?_
    refine pz_add (by decide +kernel) rfl kz_6 (by omega) (by omega) (fun z28 hz28 => ?_)
    refine pz_ialdX (n := xs.length) (by decide +kernel) (show pg_X xs 0 = some (0, xs, 0) from rfl) rfl hz28 (by omega) (by omega) (fun v29 ev29 => ?_)
    clear hz28
    refine pz_if_eq (off := 7) (t := 1082) (by decide +kernel) (by decide) rfl rfl (fun h30 => ?_) (fun h30 => ?_)
    · skip
      refine pe_iconstv (n := 0) (v := 0) (by decide +kernel) (by decide +kernel) ?_
      show pmE pg (pg_X xs) pg_tyl pg_cl 41 318 1083 [.retAddr 0, .ref 0, .ref 147, .int x3] [.int 0, .int v27, .int v25, .int v23, .int v21, .int v19, .ref 147] (md (cc f15 A16 R17) g B) _
      refine pz_callV (j := 92) (mj := 272) (by decide +kernel) (cll_V (args := [.int 0, .int v27, .int v25, .int v23, .int v21, .int v19]) (n := 6) (by decide +kernel) rfl rfl (md_o cc_len) (by decide +kernel) (Nat.le_of_ble_eq_true rfl) (Nat.le_of_ble_eq_true rfl)) (MM_272 cc_len hM) (fun q31a q31b q31c q31d hqq31 => ?_)
      obtain ⟨g32, B33, lq31, eq31, hIq31, hGq31, hFq31, kq31⟩ := hqq31
      cases eq31
      refine ⟨rfl, rfl, ?_⟩
      show pmE pg (pg_X xs) pg_tyl pg_cl 41 318 1086 [.retAddr 0, .ref 0, .ref 147, .int x3] [.long lq31] (cd f15 A16 R17 (em g32 B33)) _
      refine pe_pop2 (by decide +kernel) rfl ?_
      refine pe_goto (off := 1389) (t := 2476) (by decide +kernel) (by decide) rfl ?_
      exact kk _ _ _ _ _ ⟨hIq14, hIq31, (RL5_t (hGq31 31 (by decide) (by decide) (by decide) (by decide) (by decide)) (hGq31 32 (by decide) (by decide) (by decide) (by decide) (by decide)) (RL4_fr hIq14 hIq31 (fun n hn => hGq14 n (tn hn (by decide)) (tn hn (by decide)) (tn hn (by decide)) (tn hn (by decide)) (tn hn (by decide)) (tn hn (by decide))) (fun n hn => hFq14 n (tn hn (by decide)) (tn hn (by decide)) (tn hn (by decide)) (tn hn (by decide)) (tn hn (by decide)) (tn hn (by decide))) (hFq31 148 (by decide) (by decide) (by decide) (by decide)) (hFq31 149 (by decide) (by decide) (by decide) (by decide)) hR.1) hR)⟩
    · skip
      refine pe_iconstv (n := 1) (v := 1) (by decide +kernel) (by decide +kernel) ?_
      refine pe_goto (off := 4) (t := 1083) (by decide +kernel) (by decide) rfl ?_
      show pmE pg (pg_X xs) pg_tyl pg_cl 41 318 1083 [.retAddr 0, .ref 0, .ref 147, .int x3] [.int 1, .int v27, .int v25, .int v23, .int v21, .int v19, .ref 147] (md (cc f15 A16 R17) g B) _
      refine pz_callV (j := 92) (mj := 272) (by decide +kernel) (cll_V (args := [.int 1, .int v27, .int v25, .int v23, .int v21, .int v19]) (n := 6) (by decide +kernel) rfl rfl (md_o cc_len) (by decide +kernel) (Nat.le_of_ble_eq_true rfl) (Nat.le_of_ble_eq_true rfl)) (MM_272 cc_len hM) (fun q34a q34b q34c q34d hqq34 => ?_)
      obtain ⟨g35, B36, lq34, eq34, hIq34, hGq34, hFq34, kq34⟩ := hqq34
      cases eq34
      refine ⟨rfl, rfl, ?_⟩
      show pmE pg (pg_X xs) pg_tyl pg_cl 41 318 1086 [.retAddr 0, .ref 0, .ref 147, .int x3] [.long lq34] (cd f15 A16 R17 (em g35 B36)) _
      refine pe_pop2 (by decide +kernel) rfl ?_
      refine pe_goto (off := 1389) (t := 2476) (by decide +kernel) (by decide) rfl ?_
      exact kk _ _ _ _ _ ⟨hIq14, hIq34, (RL5_t (hGq34 31 (by decide) (by decide) (by decide) (by decide) (by decide)) (hGq34 32 (by decide) (by decide) (by decide) (by decide) (by decide)) (RL4_fr hIq14 hIq34 (fun n hn => hGq14 n (tn hn (by decide)) (tn hn (by decide)) (tn hn (by decide)) (tn hn (by decide)) (tn hn (by decide)) (tn hn (by decide))) (fun n hn => hFq14 n (tn hn (by decide)) (tn hn (by decide)) (tn hn (by decide)) (tn hn (by decide)) (tn hn (by decide)) (tn hn (by decide))) (hFq34 148 (by decide) (by decide) (by decide) (by decide)) (hFq34 149 (by decide) (by decide) (by decide) (by decide)) hR.1) hR)⟩
  · skip
    refine pe_iconstv (n := 1) (v := 1) (by decide +kernel) (by decide +kernel) ?_
    refine pe_goto (off := 4) (t := 1039) (by decide +kernel) (by decide) rfl ?_
    refine pz_callV (j := 88) (mj := 139) (by decide +kernel) (cll_V (args := [.int 1, .int v10, .int v8, .int v6, .int v4, .int v2]) (n := 6) (by decide +kernel) rfl rfl cd_o0 (by decide +kernel) (Nat.le_of_ble_eq_true rfl) (Nat.le_of_ble_eq_true rfl)) (CM_139 st_XO hC) (fun q37a q37b q37c q37d hqq37 => ?_)
    obtain ⟨f38, A39, R40, lq37, eq37, hIq37, hGq37, hFq37, hHq37, kq37⟩ := hqq37
    cases eq37
    refine ⟨rfl, rfl, ?_⟩
    show pmE pg (pg_X xs) pg_tyl pg_cl 41 318 1042 [.retAddr 0, .ref 0, .ref 147, .int x3] [.long lq37] (cd f38 A39 R40 (em g B)) _
    refine pe_pop2 (by decide +kernel) rfl ?_
    refine pe_aload_n (j := 2) (by decide +kernel) rfl ?_
    refine pe_aloadX_n (j := 0) (by decide +kernel) rfl ?_
    refine pe_iload_n (j := 3) (by decide +kernel) rfl ?_
    refine pe_iconstv (n := 1) (v := 1) (by decide +kernel) (by decide +kernel) ?_
    refine pz_add (by decide +kernel) rfl kz_1 (by omega) (by omega) (fun z41 hz41 => ?_)
    refine pz_ialdX (n := xs.length) (by decide +kernel) (show pg_X xs 0 = some (0, xs, 0) from rfl) rfl hz41 (by omega) (by omega) (fun v42 ev42 => ?_)
    clear hz41
    refine pe_aloadX_n (j := 0) (by decide +kernel) rfl ?_
    refine pe_iload_n (j := 3) (by decide +kernel) rfl ?_
    refine pe_iconstv (n := 2) (v := 2) (by decide +kernel) (by decide +kernel) ?_
    refine pz_add (by decide +kernel) rfl kz_2 (by omega) (by omega) (fun z43 hz43 => ?_)
    refine pz_ialdX (n := xs.length) (by decide +kernel) (show pg_X xs 0 = some (0, xs, 0) from rfl) rfl hz43 (by omega) (by omega) (fun v44 ev44 => ?_)
    clear hz43
    refine pe_aloadX_n (j := 0) (by decide +kernel) rfl ?_
    refine pe_iload_n (j := 3) (by decide +kernel) rfl ?_
    refine pe_iconstv (n := 3) (v := 3) (by decide +kernel) (by decide +kernel) ?_
    refine pz_add (by decide +kernel) rfl kz_3 (by omega) (by omega) (fun z45 hz45 => ?_)
    refine pz_ialdX (n := xs.length) (by decide +kernel) (show pg_X xs 0 = some (0, xs, 0) from rfl) rfl hz45 (by omega) (by omega) (fun v46 ev46 => ?_)
    clear hz45
    refine pe_aloadX_n (j := 0) (by decide +kernel) rfl ?_
    refine pe_iload_n (j := 3) (by decide +kernel) rfl ?_
    refine pe_iconstv (n := 4) (v := 4) (by decide +kernel) (by decide +kernel) ?_
    refine pz_add (by decide +kernel) rfl kz_4 (by omega) (by omega) (fun z47 hz47 => ?_)
    refine pz_ialdX (n := xs.length) (by decide +kernel) (show pg_X xs 0 = some (0, xs, 0) from rfl) rfl hz47 (by omega) (by omega) (fun v48 ev48 => ?_)
    clear hz47
    refine pe_aloadX_n (j := 0) (by decide +kernel) rfl ?_
    refine pe_iload_n (j := 3) (by decide +kernel) rfl ?_
    refine pe_iconstv (n := 5) (v := 5) (by decide +kernel) (by decide +kernel) ?_
    refine pz_add (by decide +kernel) rfl kz_5 (by omega) (by omega) (fun z49 hz49 => ?_)
    refine pz_ialdX (n := xs.length) (by decide +kernel) (show pg_X xs 0 = some (0, xs, 0) from rfl) rfl hz49 (by omega) (by omega) (fun v50 ev50 => ?_)
    clear hz49
    refine pe_aloadX_n (j := 0) (by decide +kernel) rfl ?_
    refine pe_iload_n (j := 3) (by decide +kernel) rfl ?_
    refine pe_bipushv (n := 6) (v := 6) (by decide +kernel) (by decide +kernel) ?_
    refine pz_add (by decide +kernel) rfl kz_6 (by omega) (by omega) (fun z51 hz51 => ?_)
    refine pz_ialdX (n := xs.length) (by decide +kernel) (show pg_X xs 0 = some (0, xs, 0) from rfl) rfl hz51 (by omega) (by omega) (fun v52 ev52 => ?_)
    clear hz51
    refine pz_if_eq (off := 7) (t := 1082) (by decide +kernel) (by decide) rfl rfl (fun h53 => ?_) (fun h53 => ?_)
    · skip
      refine pe_iconstv (n := 0) (v := 0) (by decide +kernel) (by decide +kernel) ?_
      show pmE pg (pg_X xs) pg_tyl pg_cl 41 318 1083 [.retAddr 0, .ref 0, .ref 147, .int x3] [.int 0, .int v50, .int v48, .int v46, .int v44, .int v42, .ref 147] (md (cc f38 A39 R40) g B) _
      refine pz_callV (j := 92) (mj := 272) (by decide +kernel) (cll_V (args := [.int 0, .int v50, .int v48, .int v46, .int v44, .int v42]) (n := 6) (by decide +kernel) rfl rfl (md_o cc_len) (by decide +kernel) (Nat.le_of_ble_eq_true rfl) (Nat.le_of_ble_eq_true rfl)) (MM_272 cc_len hM) (fun q54a q54b q54c q54d hqq54 => ?_)
      obtain ⟨g55, B56, lq54, eq54, hIq54, hGq54, hFq54, kq54⟩ := hqq54
      cases eq54
      refine ⟨rfl, rfl, ?_⟩
      show pmE pg (pg_X xs) pg_tyl pg_cl 41 318 1086 [.retAddr 0, .ref 0, .ref 147, .int x3] [.long lq54] (cd f38 A39 R40 (em g55 B56)) _
      refine pe_pop2 (by decide +kernel) rfl ?_
      refine pe_goto (off := 1389) (t := 2476) (by decide +kernel) (by decide) rfl ?_
      exact kk _ _ _ _ _ ⟨hIq37, hIq54, (RL5_t (hGq54 31 (by decide) (by decide) (by decide) (by decide) (by decide)) (hGq54 32 (by decide) (by decide) (by decide) (by decide) (by decide)) (RL4_fr hIq37 hIq54 (fun n hn => hGq37 n (tn hn (by decide)) (tn hn (by decide)) (tn hn (by decide)) (tn hn (by decide)) (tn hn (by decide)) (tn hn (by decide))) (fun n hn => hFq37 n (tn hn (by decide)) (tn hn (by decide)) (tn hn (by decide)) (tn hn (by decide)) (tn hn (by decide)) (tn hn (by decide))) (hFq54 148 (by decide) (by decide) (by decide) (by decide)) (hFq54 149 (by decide) (by decide) (by decide) (by decide)) hR.1) hR)⟩
    · skip
      refine pe_iconstv (n := 1) (v := 1) (by decide +kernel) (by decide +kernel) ?_
      refine pe_goto (off := 4) (t := 1083) (by decide +kernel) (by decide) rfl ?_
      show pmE pg (pg_X xs) pg_tyl pg_cl 41 318 1083 [.retAddr 0, .ref 0, .ref 147, .int x3] [.int 1, .int v50, .int v48, .int v46, .int v44, .int v42, .ref 147] (md (cc f38 A39 R40) g B) _
      refine pz_callV (j := 92) (mj := 272) (by decide +kernel) (cll_V (args := [.int 1, .int v50, .int v48, .int v46, .int v44, .int v42]) (n := 6) (by decide +kernel) rfl rfl (md_o cc_len) (by decide +kernel) (Nat.le_of_ble_eq_true rfl) (Nat.le_of_ble_eq_true rfl)) (MM_272 cc_len hM) (fun q57a q57b q57c q57d hqq57 => ?_)
      obtain ⟨g58, B59, lq57, eq57, hIq57, hGq57, hFq57, kq57⟩ := hqq57
      cases eq57
      refine ⟨rfl, rfl, ?_⟩
      show pmE pg (pg_X xs) pg_tyl pg_cl 41 318 1086 [.retAddr 0, .ref 0, .ref 147, .int x3] [.long lq57] (cd f38 A39 R40 (em g58 B59)) _
      refine pe_pop2 (by decide +kernel) rfl ?_
      refine pe_goto (off := 1389) (t := 2476) (by decide +kernel) (by decide) rfl ?_
      exact kk _ _ _ _ _ ⟨hIq37, hIq57, (RL5_t (hGq57 31 (by decide) (by decide) (by decide) (by decide) (by decide)) (hGq57 32 (by decide) (by decide) (by decide) (by decide) (by decide)) (RL4_fr hIq37 hIq57 (fun n hn => hGq37 n (tn hn (by decide)) (tn hn (by decide)) (tn hn (by decide)) (tn hn (by decide)) (tn hn (by decide)) (tn hn (by decide))) (fun n hn => hFq37 n (tn hn (by decide)) (tn hn (by decide)) (tn hn (by decide)) (tn hn (by decide)) (tn hn (by decide)) (tn hn (by decide))) (hFq57 148 (by decide) (by decide) (by decide) (by decide)) (hFq57 149 (by decide) (by decide) (by decide) (by decide)) hR.1) hR)⟩
set_option maxRecDepth 100000 in
set_option maxHeartbeats 8000000 in
theorem LC_18 {xs : List Int32} {Q : pm_R → Prop} {f : Nat → Int32} {A : Nat → List Int32} {R : Nat → Value} {g : Nat → Int32} {B : Nat → List Int32} {x3 : Int32} (h3 : 0 ≤ x3.toInt) (h4 : x3.toInt + 7 ≤ xs.length) (hl : xs.length ≤ 3584) (hS : ST f A R g B) (kk : ∀ (f' : Nat → Int32) (A' : Nat → List Int32) (R' : Nat → Value) (g' : Nat → Int32) (B' : Nat → List Int32), ST f' A' R' g' B' → pmE pg (pg_X xs) pg_tyl pg_cl 41 318 2476 [.retAddr 0, .ref 0, .ref 147, .int x3] [] (cd f' A' R' (em g' B')) Q) : pmE pg (pg_X xs) pg_tyl pg_cl 41 318 1090 [.retAddr 0, .ref 0, .ref 147, .int x3] [] (cd f A R (em g B)) Q := by
  obtain ⟨hC, hM, hR⟩ := hS
  refine pe_aload_n (j := 1) (by decide +kernel) rfl ?_
  refine pe_aloadX_n (j := 0) (by decide +kernel) rfl ?_
  refine pe_iload_n (j := 3) (by decide +kernel) rfl ?_
  refine pe_iconstv (n := 1) (v := 1) (by decide +kernel) (by decide +kernel) ?_
  refine pz_add (by decide +kernel) rfl kz_1 (by omega) (by omega) (fun z1 hz1 => ?_)
  refine pz_ialdX (n := xs.length) (by decide +kernel) (show pg_X xs 0 = some (0, xs, 0) from rfl) rfl hz1 (by omega) (by omega) (fun v2 ev2 => ?_)
  clear hz1
  refine pe_aloadX_n (j := 0) (by decide +kernel) rfl ?_
  refine pe_iload_n (j := 3) (by decide +kernel) rfl ?_
  refine pe_iconstv (n := 2) (v := 2) (by decide +kernel) (by decide +kernel) ?_
  refine pz_add (by decide +kernel) rfl kz_2 (by omega) (by omega) (fun z3 hz3 => ?_)
  refine pz_ialdX (n := xs.length) (by decide +kernel) (show pg_X xs 0 = some (0, xs, 0) from rfl) rfl hz3 (by omega) (by omega) (fun v4 ev4 => ?_)
  clear hz3
  refine pe_aloadX_n (j := 0) (by decide +kernel) rfl ?_
  refine pe_iload_n (j := 3) (by decide +kernel) rfl ?_
  refine pe_iconstv (n := 3) (v := 3) (by decide +kernel) (by decide +kernel) ?_
  refine pz_add (by decide +kernel) rfl kz_3 (by omega) (by omega) (fun z5 hz5 => ?_)
  refine pz_ialdX (n := xs.length) (by decide +kernel) (show pg_X xs 0 = some (0, xs, 0) from rfl) rfl hz5 (by omega) (by omega) (fun v6 ev6 => ?_)
  clear hz5
  refine pe_aloadX_n (j := 0) (by decide +kernel) rfl ?_
  refine pe_iload_n (j := 3) (by decide +kernel) rfl ?_
  refine pe_iconstv (n := 4) (v := 4) (by decide +kernel) (by decide +kernel) ?_
  refine pz_add (by decide +kernel) rfl kz_4 (by omega) (by omega) (fun z7 hz7 => ?_)
  refine pz_ialdX (n := xs.length) (by decide +kernel) (show pg_X xs 0 = some (0, xs, 0) from rfl) rfl hz7 (by omega) (by omega) (fun v8 ev8 => ?_)
  clear hz7
  refine pz_callV (j := 93) (mj := 140) (by decide +kernel) (cll_V (args := [.int v8, .int v6, .int v4, .int v2]) (n := 4) (by decide +kernel) rfl rfl cd_o0 (by decide +kernel) (Nat.le_of_ble_eq_true rfl) (Nat.le_of_ble_eq_true rfl)) (CM_140 st_XO hC) (fun q9a q9b q9c q9d hqq9 => ?_)
  obtain ⟨f10, A11, R12, rq9, eq9, hIq9, hGq9, hFq9, hHq9, kq9⟩ := hqq9
  cases eq9
  refine ⟨rfl, rfl, ?_⟩
  show pmE pg (pg_X xs) pg_tyl pg_cl 41 318 1114 [.retAddr 0, .ref 0, .ref 147, .int x3] [.int rq9] (cd f10 A11 R12 (em g B)) _
  refine pe_pop (by decide +kernel) rfl ?_
  refine pe_aload_n (j := 2) (by decide +kernel) rfl ?_
  refine pe_aloadX_n (j := 0) (by decide +kernel) rfl ?_
  refine pe_iload_n (j := 3) (by decide +kernel) rfl ?_
  refine pe_iconstv (n := 1) (v := 1) (by decide +kernel) (by decide +kernel) ?_
  refine pz_add (by decide +kernel) rfl kz_1 (by omega) (by omega) (fun z13 hz13 => ?_)
  refine pz_ialdX (n := xs.length) (by decide +kernel) (show pg_X xs 0 = some (0, xs, 0) from rfl) rfl hz13 (by omega) (by omega) (fun v14 ev14 => ?_)
  clear hz13
  refine pe_aloadX_n (j := 0) (by decide +kernel) rfl ?_
  refine pe_iload_n (j := 3) (by decide +kernel) rfl ?_
  refine pe_iconstv (n := 2) (v := 2) (by decide +kernel) (by decide +kernel) ?_
  refine pz_add (by decide +kernel) rfl kz_2 (by omega) (by omega) (fun z15 hz15 => ?_)
  refine pz_ialdX (n := xs.length) (by decide +kernel) (show pg_X xs 0 = some (0, xs, 0) from rfl) rfl hz15 (by omega) (by omega) (fun v16 ev16 => ?_)
  clear hz15
  refine pe_aloadX_n (j := 0) (by decide +kernel) rfl ?_
  refine pe_iload_n (j := 3) (by decide +kernel) rfl ?_
  refine pe_iconstv (n := 3) (v := 3) (by decide +kernel) (by decide +kernel) ?_
  refine pz_add (by decide +kernel) rfl kz_3 (by omega) (by omega) (fun z17 hz17 => ?_)
  refine pz_ialdX (n := xs.length) (by decide +kernel) (show pg_X xs 0 = some (0, xs, 0) from rfl) rfl hz17 (by omega) (by omega) (fun v18 ev18 => ?_)
  clear hz17
  refine pe_aloadX_n (j := 0) (by decide +kernel) rfl ?_
  refine pe_iload_n (j := 3) (by decide +kernel) rfl ?_
  refine pe_iconstv (n := 4) (v := 4) (by decide +kernel) (by decide +kernel) ?_
  refine pz_add (by decide +kernel) rfl kz_4 (by omega) (by omega) (fun z19 hz19 => ?_)
  refine pz_ialdX (n := xs.length) (by decide +kernel) (show pg_X xs 0 = some (0, xs, 0) from rfl) rfl hz19 (by omega) (by omega) (fun v20 ev20 => ?_)
  clear hz19
  show pmE pg (pg_X xs) pg_tyl pg_cl 41 318 1136 [.retAddr 0, .ref 0, .ref 147, .int x3] [.int v20, .int v18, .int v16, .int v14, .ref 147] (md (cc f10 A11 R12) g B) _
  refine pz_callV (j := 96) (mj := 274) (by decide +kernel) (cll_V (args := [.int v20, .int v18, .int v16, .int v14]) (n := 4) (by decide +kernel) rfl rfl (md_o cc_len) (by decide +kernel) (Nat.le_of_ble_eq_true rfl) (Nat.le_of_ble_eq_true rfl)) (MM_274 cc_len hM) (fun q21a q21b q21c q21d hqq21 => ?_)
  obtain ⟨g22, B23, rq21, eq21, hIq21, hGq21, hFq21, kq21⟩ := hqq21
  cases eq21
  refine ⟨rfl, rfl, ?_⟩
  show pmE pg (pg_X xs) pg_tyl pg_cl 41 318 1139 [.retAddr 0, .ref 0, .ref 147, .int x3] [.int rq21] (cd f10 A11 R12 (em g22 B23)) _
  refine pe_pop (by decide +kernel) rfl ?_
  refine pe_goto (off := 1336) (t := 2476) (by decide +kernel) (by decide) rfl ?_
  exact kk _ _ _ _ _ ⟨hIq9, hIq21, (RL5_t (hGq21 31 (by decide) (by decide) (by decide)) (hGq21 32 (by decide) (by decide) (by decide)) (RL4_fr hIq9 hIq21 (fun n hn => hGq9 n (tn hn (by decide)) (tn hn (by decide))) (fun n hn => hFq9 n (tn hn (by decide)) (tn hn (by decide)) (tn hn (by decide))) (hFq21 148 (by decide) (by decide)) (hFq21 149 (by decide) (by decide)) hR.1) hR)⟩
set_option maxRecDepth 100000 in
set_option maxHeartbeats 8000000 in
theorem LC_19 {xs : List Int32} {Q : pm_R → Prop} {f : Nat → Int32} {A : Nat → List Int32} {R : Nat → Value} {g : Nat → Int32} {B : Nat → List Int32} {x3 : Int32} (h3 : 0 ≤ x3.toInt) (h4 : x3.toInt + 7 ≤ xs.length) (hl : xs.length ≤ 3584) (hS : ST f A R g B) (kk : ∀ (f' : Nat → Int32) (A' : Nat → List Int32) (R' : Nat → Value) (g' : Nat → Int32) (B' : Nat → List Int32), ST f' A' R' g' B' → pmE pg (pg_X xs) pg_tyl pg_cl 41 318 2476 [.retAddr 0, .ref 0, .ref 147, .int x3] [] (cd f' A' R' (em g' B')) Q) : pmE pg (pg_X xs) pg_tyl pg_cl 41 318 1143 [.retAddr 0, .ref 0, .ref 147, .int x3] [] (cd f A R (em g B)) Q := by
  obtain ⟨hC, hM, hR⟩ := hS
  refine pe_aload_n (j := 1) (by decide +kernel) rfl ?_
  refine pe_aloadX_n (j := 0) (by decide +kernel) rfl ?_
  refine pe_iload_n (j := 3) (by decide +kernel) rfl ?_
  refine pe_iconstv (n := 1) (v := 1) (by decide +kernel) (by decide +kernel) ?_
  refine pz_add (by decide +kernel) rfl kz_1 (by omega) (by omega) (fun z1 hz1 => ?_)
  refine pz_ialdX (n := xs.length) (by decide +kernel) (show pg_X xs 0 = some (0, xs, 0) from rfl) rfl hz1 (by omega) (by omega) (fun v2 ev2 => ?_)
  clear hz1
  refine pe_aloadX_n (j := 0) (by decide +kernel) rfl ?_
  refine pe_iload_n (j := 3) (by decide +kernel) rfl ?_
  refine pe_iconstv (n := 2) (v := 2) (by decide +kernel) (by decide +kernel) ?_
  refine pz_add (by decide +kernel) rfl kz_2 (by omega) (by omega) (fun z3 hz3 => ?_)
  refine pz_ialdX (n := xs.length) (by decide +kernel) (show pg_X xs 0 = some (0, xs, 0) from rfl) rfl hz3 (by omega) (by omega) (fun v4 ev4 => ?_)
  clear hz3
  refine pe_aloadX_n (j := 0) (by decide +kernel) rfl ?_
  refine pe_iload_n (j := 3) (by decide +kernel) rfl ?_
  refine pe_iconstv (n := 3) (v := 3) (by decide +kernel) (by decide +kernel) ?_
  refine pz_add (by decide +kernel) rfl kz_3 (by omega) (by omega) (fun z5 hz5 => ?_)
  refine pz_ialdX (n := xs.length) (by decide +kernel) (show pg_X xs 0 = some (0, xs, 0) from rfl) rfl hz5 (by omega) (by omega) (fun v6 ev6 => ?_)
  clear hz5
  refine pe_aloadX_n (j := 0) (by decide +kernel) rfl ?_
  refine pe_iload_n (j := 3) (by decide +kernel) rfl ?_
  refine pe_iconstv (n := 4) (v := 4) (by decide +kernel) (by decide +kernel) ?_
  refine pz_add (by decide +kernel) rfl kz_4 (by omega) (by omega) (fun z7 hz7 => ?_)
  refine pz_ialdX (n := xs.length) (by decide +kernel) (show pg_X xs 0 = some (0, xs, 0) from rfl) rfl hz7 (by omega) (by omega) (fun v8 ev8 => ?_)
  clear hz7
  refine pz_callV (j := 97) (mj := 158) (by decide +kernel) (cll_V (args := [.int v8, .int v6, .int v4, .int v2]) (n := 4) (by decide +kernel) rfl rfl cd_o0 (by decide +kernel) (Nat.le_of_ble_eq_true rfl) (Nat.le_of_ble_eq_true rfl)) (CM_158 st_XO hC) (fun q9a q9b q9c q9d hqq9 => ?_)
  obtain ⟨f10, A11, R12, rq9, eq9, hIq9, hGq9, hFq9, hHq9, kq9⟩ := hqq9
  cases eq9
  refine ⟨rfl, rfl, ?_⟩
  show pmE pg (pg_X xs) pg_tyl pg_cl 41 318 1167 [.retAddr 0, .ref 0, .ref 147, .int x3] [.int rq9] (cd f10 A11 R12 (em g B)) _
  refine pe_pop (by decide +kernel) rfl ?_
  refine pe_aload_n (j := 2) (by decide +kernel) rfl ?_
  refine pe_aloadX_n (j := 0) (by decide +kernel) rfl ?_
  refine pe_iload_n (j := 3) (by decide +kernel) rfl ?_
  refine pe_iconstv (n := 1) (v := 1) (by decide +kernel) (by decide +kernel) ?_
  refine pz_add (by decide +kernel) rfl kz_1 (by omega) (by omega) (fun z13 hz13 => ?_)
  refine pz_ialdX (n := xs.length) (by decide +kernel) (show pg_X xs 0 = some (0, xs, 0) from rfl) rfl hz13 (by omega) (by omega) (fun v14 ev14 => ?_)
  clear hz13
  refine pe_aloadX_n (j := 0) (by decide +kernel) rfl ?_
  refine pe_iload_n (j := 3) (by decide +kernel) rfl ?_
  refine pe_iconstv (n := 2) (v := 2) (by decide +kernel) (by decide +kernel) ?_
  refine pz_add (by decide +kernel) rfl kz_2 (by omega) (by omega) (fun z15 hz15 => ?_)
  refine pz_ialdX (n := xs.length) (by decide +kernel) (show pg_X xs 0 = some (0, xs, 0) from rfl) rfl hz15 (by omega) (by omega) (fun v16 ev16 => ?_)
  clear hz15
  refine pe_aloadX_n (j := 0) (by decide +kernel) rfl ?_
  refine pe_iload_n (j := 3) (by decide +kernel) rfl ?_
  refine pe_iconstv (n := 3) (v := 3) (by decide +kernel) (by decide +kernel) ?_
  refine pz_add (by decide +kernel) rfl kz_3 (by omega) (by omega) (fun z17 hz17 => ?_)
  refine pz_ialdX (n := xs.length) (by decide +kernel) (show pg_X xs 0 = some (0, xs, 0) from rfl) rfl hz17 (by omega) (by omega) (fun v18 ev18 => ?_)
  clear hz17
  refine pe_aloadX_n (j := 0) (by decide +kernel) rfl ?_
  refine pe_iload_n (j := 3) (by decide +kernel) rfl ?_
  refine pe_iconstv (n := 4) (v := 4) (by decide +kernel) (by decide +kernel) ?_
  refine pz_add (by decide +kernel) rfl kz_4 (by omega) (by omega) (fun z19 hz19 => ?_)
  refine pz_ialdX (n := xs.length) (by decide +kernel) (show pg_X xs 0 = some (0, xs, 0) from rfl) rfl hz19 (by omega) (by omega) (fun v20 ev20 => ?_)
  clear hz19
  show pmE pg (pg_X xs) pg_tyl pg_cl 41 318 1189 [.retAddr 0, .ref 0, .ref 147, .int x3] [.int v20, .int v18, .int v16, .int v14, .ref 147] (md (cc f10 A11 R12) g B) _
  refine pz_callV (j := 100) (mj := 276) (by decide +kernel) (cll_V (args := [.int v20, .int v18, .int v16, .int v14]) (n := 4) (by decide +kernel) rfl rfl (md_o cc_len) (by decide +kernel) (Nat.le_of_ble_eq_true rfl) (Nat.le_of_ble_eq_true rfl)) (NM_276 cc_len hM) (fun q21a q21b q21c q21d hqq21 => ?_)
  obtain ⟨g22, B23, rq21, eq21, hIq21, hGq21, hFq21, kq21⟩ := hqq21
  cases eq21
  refine ⟨rfl, rfl, ?_⟩
  show pmE pg (pg_X xs) pg_tyl pg_cl 41 318 1192 [.retAddr 0, .ref 0, .ref 147, .int x3] [.int rq21] (cd f10 A11 R12 (em g22 B23)) _
  refine pe_pop (by decide +kernel) rfl ?_
  refine pe_goto (off := 1283) (t := 2476) (by decide +kernel) (by decide) rfl ?_
  exact kk _ _ _ _ _ ⟨hIq9, hIq21, (RL5_t (hGq21 31 (by decide) (by decide) (by decide)) (hGq21 32 (by decide) (by decide) (by decide)) (RL4_fr hIq9 hIq21 (fun n hn => hGq9 n (tn hn (by decide)) (tn hn (by decide)) (tn hn (by decide))) (fun n hn => hFq9 n (tn hn (by decide)) (tn hn (by decide)) (tn hn (by decide)) (tn hn (by decide)) (tn hn (by decide)) (tn hn (by decide)) (tn hn (by decide)) (tn hn (by decide))) (hFq21 148 (by decide) (by decide) (by decide) (by decide) (by decide) (by decide) (by decide)) (hFq21 149 (by decide) (by decide) (by decide) (by decide) (by decide) (by decide) (by decide)) hR.1) hR)⟩
set_option maxRecDepth 100000 in
set_option maxHeartbeats 8000000 in
theorem LC_20 {xs : List Int32} {Q : pm_R → Prop} {f : Nat → Int32} {A : Nat → List Int32} {R : Nat → Value} {g : Nat → Int32} {B : Nat → List Int32} {x3 : Int32} (h3 : 0 ≤ x3.toInt) (h4 : x3.toInt + 7 ≤ xs.length) (hl : xs.length ≤ 3584) (hS : ST f A R g B) (kk : ∀ (f' : Nat → Int32) (A' : Nat → List Int32) (R' : Nat → Value) (g' : Nat → Int32) (B' : Nat → List Int32), ST f' A' R' g' B' → pmE pg (pg_X xs) pg_tyl pg_cl 41 318 2476 [.retAddr 0, .ref 0, .ref 147, .int x3] [] (cd f' A' R' (em g' B')) Q) : pmE pg (pg_X xs) pg_tyl pg_cl 41 318 1196 [.retAddr 0, .ref 0, .ref 147, .int x3] [] (cd f A R (em g B)) Q := by
  obtain ⟨hC, hM, hR⟩ := hS
  refine pe_aload_n (j := 1) (by decide +kernel) rfl ?_
  refine pe_aloadX_n (j := 0) (by decide +kernel) rfl ?_
  refine pe_iload_n (j := 3) (by decide +kernel) rfl ?_
  refine pe_iconstv (n := 1) (v := 1) (by decide +kernel) (by decide +kernel) ?_
  refine pz_add (by decide +kernel) rfl kz_1 (by omega) (by omega) (fun z1 hz1 => ?_)
  refine pz_ialdX (n := xs.length) (by decide +kernel) (show pg_X xs 0 = some (0, xs, 0) from rfl) rfl hz1 (by omega) (by omega) (fun v2 ev2 => ?_)
  clear hz1
  refine pe_aloadX_n (j := 0) (by decide +kernel) rfl ?_
  refine pe_iload_n (j := 3) (by decide +kernel) rfl ?_
  refine pe_iconstv (n := 2) (v := 2) (by decide +kernel) (by decide +kernel) ?_
  refine pz_add (by decide +kernel) rfl kz_2 (by omega) (by omega) (fun z3 hz3 => ?_)
  refine pz_ialdX (n := xs.length) (by decide +kernel) (show pg_X xs 0 = some (0, xs, 0) from rfl) rfl hz3 (by omega) (by omega) (fun v4 ev4 => ?_)
  clear hz3
  refine pe_aloadX_n (j := 0) (by decide +kernel) rfl ?_
  refine pe_iload_n (j := 3) (by decide +kernel) rfl ?_
  refine pe_iconstv (n := 3) (v := 3) (by decide +kernel) (by decide +kernel) ?_
  refine pz_add (by decide +kernel) rfl kz_3 (by omega) (by omega) (fun z5 hz5 => ?_)
  refine pz_ialdX (n := xs.length) (by decide +kernel) (show pg_X xs 0 = some (0, xs, 0) from rfl) rfl hz5 (by omega) (by omega) (fun v6 ev6 => ?_)
  clear hz5
  refine pe_aloadX_n (j := 0) (by decide +kernel) rfl ?_
  refine pe_iload_n (j := 3) (by decide +kernel) rfl ?_
  refine pe_iconstv (n := 4) (v := 4) (by decide +kernel) (by decide +kernel) ?_
  refine pz_add (by decide +kernel) rfl kz_4 (by omega) (by omega) (fun z7 hz7 => ?_)
  refine pz_ialdX (n := xs.length) (by decide +kernel) (show pg_X xs 0 = some (0, xs, 0) from rfl) rfl hz7 (by omega) (by omega) (fun v8 ev8 => ?_)
  clear hz7
  refine pe_aloadX_n (j := 0) (by decide +kernel) rfl ?_
  refine pe_iload_n (j := 3) (by decide +kernel) rfl ?_
  refine pe_iconstv (n := 5) (v := 5) (by decide +kernel) (by decide +kernel) ?_
  refine pz_add (by decide +kernel) rfl kz_5 (by omega) (by omega) (fun z9 hz9 => ?_)
  refine pz_ialdX (n := xs.length) (by decide +kernel) (show pg_X xs 0 = some (0, xs, 0) from rfl) rfl hz9 (by omega) (by omega) (fun v10 ev10 => ?_)
  clear hz9
  refine pz_if_eq (off := 7) (t := 1229) (by decide +kernel) (by decide) rfl rfl (fun h11 => ?_) (fun h11 => ?_)
  · skip
    refine pe_iconstv (n := 0) (v := 0) (by decide +kernel) (by decide +kernel) ?_
    refine pz_callV (j := 101) (mj := 167) (by decide +kernel) (cll_V (args := [.int 0, .int v8, .int v6, .int v4, .int v2]) (n := 5) (by decide +kernel) rfl rfl cd_o0 (by decide +kernel) (Nat.le_of_ble_eq_true rfl) (Nat.le_of_ble_eq_true rfl)) ((pmE_PS (CM_167 st_XO hC))) (fun q12a q12b q12c q12d hqq12 => ?_)
    obtain ⟨⟨f13, A14, R15, rq12, eq12, hIq12, hGq12, hFq12, hHq12, kq12⟩, kpq12⟩ := hqq12
    cases eq12
    refine ⟨rfl, rfl, ?_⟩
    show pmE pg (pg_X xs) pg_tyl pg_cl 41 318 1233 [.retAddr 0, .ref 0, .ref 147, .int x3] [.int rq12] (cd f13 A14 R15 (em g B)) _
    refine pe_aload_n (j := 2) (by decide +kernel) rfl ?_
    refine pe_aloadX_n (j := 0) (by decide +kernel) rfl ?_
    refine pe_iload_n (j := 3) (by decide +kernel) rfl ?_
    refine pe_iconstv (n := 1) (v := 1) (by decide +kernel) (by decide +kernel) ?_
    refine pz_add (by decide +kernel) rfl kz_1 (by omega) (by omega) (fun z16 hz16 => ?_)
    refine pz_ialdX (n := xs.length) (by decide +kernel) (show pg_X xs 0 = some (0, xs, 0) from rfl) rfl hz16 (by omega) (by omega) (fun v17 ev17 => ?_)
    clear hz16
    refine pe_aloadX_n (j := 0) (by decide +kernel) rfl ?_
    refine pe_iload_n (j := 3) (by decide +kernel) rfl ?_
    refine pe_iconstv (n := 2) (v := 2) (by decide +kernel) (by decide +kernel) ?_
    refine pz_add (by decide +kernel) rfl kz_2 (by omega) (by omega) (fun z18 hz18 => ?_)
    refine pz_ialdX (n := xs.length) (by decide +kernel) (show pg_X xs 0 = some (0, xs, 0) from rfl) rfl hz18 (by omega) (by omega) (fun v19 ev19 => ?_)
    clear hz18
    refine pe_aloadX_n (j := 0) (by decide +kernel) rfl ?_
    refine pe_iload_n (j := 3) (by decide +kernel) rfl ?_
    refine pe_iconstv (n := 3) (v := 3) (by decide +kernel) (by decide +kernel) ?_
    refine pz_add (by decide +kernel) rfl kz_3 (by omega) (by omega) (fun z20 hz20 => ?_)
    refine pz_ialdX (n := xs.length) (by decide +kernel) (show pg_X xs 0 = some (0, xs, 0) from rfl) rfl hz20 (by omega) (by omega) (fun v21 ev21 => ?_)
    clear hz20
    refine pe_aloadX_n (j := 0) (by decide +kernel) rfl ?_
    refine pe_iload_n (j := 3) (by decide +kernel) rfl ?_
    refine pe_iconstv (n := 4) (v := 4) (by decide +kernel) (by decide +kernel) ?_
    refine pz_add (by decide +kernel) rfl kz_4 (by omega) (by omega) (fun z22 hz22 => ?_)
    refine pz_ialdX (n := xs.length) (by decide +kernel) (show pg_X xs 0 = some (0, xs, 0) from rfl) rfl hz22 (by omega) (by omega) (fun v23 ev23 => ?_)
    clear hz22
    refine pe_aloadX_n (j := 0) (by decide +kernel) rfl ?_
    refine pe_iload_n (j := 3) (by decide +kernel) rfl ?_
    refine pe_iconstv (n := 5) (v := 5) (by decide +kernel) (by decide +kernel) ?_
    refine pz_add (by decide +kernel) rfl kz_5 (by omega) (by omega) (fun z24 hz24 => ?_)
    refine pz_ialdX (n := xs.length) (by decide +kernel) (show pg_X xs 0 = some (0, xs, 0) from rfl) rfl hz24 (by omega) (by omega) (fun v25 ev25 => ?_)
    clear hz24
    refine pz_if_eq (off := 7) (t := 1266) (by decide +kernel) (by decide) rfl rfl (fun h26 => ?_) (fun h26 => ?_)
    · skip
      refine pe_iconstv (n := 0) (v := 0) (by decide +kernel) (by decide +kernel) ?_
      show pmE pg (pg_X xs) pg_tyl pg_cl 41 318 1267 [.retAddr 0, .ref 0, .ref 147, .int x3] [.int 0, .int v23, .int v21, .int v19, .int v17, .ref 147, .int rq12] (md (cc f13 A14 R15) g B) _
      refine pz_callV (j := 105) (mj := 282) (by decide +kernel) (cll_V (args := [.int 0, .int v23, .int v21, .int v19, .int v17]) (n := 5) (by decide +kernel) rfl rfl (md_o cc_len) (by decide +kernel) (Nat.le_of_ble_eq_true rfl) (Nat.le_of_ble_eq_true rfl)) ((pmE_PS (NM_282 cc_len hM))) (fun q27a q27b q27c q27d hqq27 => ?_)
      obtain ⟨⟨g28, B29, rq27, eq27, hIq27, hGq27, hFq27, kq27⟩, kpq27⟩ := hqq27
      cases eq27
      refine ⟨rfl, rfl, ?_⟩
      show pmE pg (pg_X xs) pg_tyl pg_cl 41 318 1270 [.retAddr 0, .ref 0, .ref 147, .int x3] [.int rq27, .int rq12] (cd f13 A14 R15 (em g28 B29)) _
      obtain ⟨kA, psA⟩ := kpq12
      obtain ⟨kB, psB⟩ := kpq27
      have psA : PS (pg_X xs) kA 167 0 [.ref 0, .int v2, .int v4, .int v6, .int v8, .int 0] [] (cd f A R (em g B)) (some (.int rq12)) (cd f13 A14 R15 (em g B)) := psA
      have psB : PS (pg_X xs) kB 282 0 [.ref 147, .int v17, .int v19, .int v21, .int v23, .int 0, pm_dead] [] (cd f13 A14 R15 (em g B)) (some (.int rq27)) (cd f13 A14 R15 (em g28 B29)) := psB
      rw [show v17 = v2 from ev17.trans ev2.symm] at psB
      rw [show v19 = v4 from ev19.trans ev4.symm] at psB
      rw [show v21 = v6 from ev21.trans ev6.symm] at psB
      rw [show v23 = v8 from ev23.trans ev8.symm] at psB
      have hre := RC_20 hR.1.1 hR.2.1 psA psB
      have heq : rq12.toInt = rq27.toInt := by
        injection hre with h
        injection h with h
        rw [h]
      refine pz_icmp_eq (off := 1206) (t := 2476) (by decide +kernel) (by decide) rfl rfl rfl (fun _ => ?_) (fun hne => absurd heq hne)
      exact kk _ _ _ _ _ ⟨hIq12, hIq27, (RL5_t (hGq27 31 (by decide) (by decide) (by decide)) (hGq27 32 (by decide) (by decide) (by decide)) (RL4_fr hIq12 hIq27 (fun n hn => hGq12 n (tn hn (by decide)) (tn hn (by decide)) (tn hn (by decide))) (fun n hn => hFq12 n (tn hn (by decide)) (tn hn (by decide)) (tn hn (by decide)) (tn hn (by decide)) (tn hn (by decide)) (tn hn (by decide)) (tn hn (by decide)) (tn hn (by decide)) (tn hn (by decide)) (tn hn (by decide))) (hFq27 148 (by decide) (by decide) (by decide) (by decide) (by decide) (by decide) (by decide)) (hFq27 149 (by decide) (by decide) (by decide) (by decide) (by decide) (by decide) (by decide)) hR.1) hR)⟩
    · skip
      refine pe_iconstv (n := 1) (v := 1) (by decide +kernel) (by decide +kernel) ?_
      refine pe_goto (off := 4) (t := 1267) (by decide +kernel) (by decide) rfl ?_
      show pmE pg (pg_X xs) pg_tyl pg_cl 41 318 1267 [.retAddr 0, .ref 0, .ref 147, .int x3] [.int 1, .int v23, .int v21, .int v19, .int v17, .ref 147, .int rq12] (md (cc f13 A14 R15) g B) _
      refine pz_callV (j := 105) (mj := 282) (by decide +kernel) (cll_V (args := [.int 1, .int v23, .int v21, .int v19, .int v17]) (n := 5) (by decide +kernel) rfl rfl (md_o cc_len) (by decide +kernel) (Nat.le_of_ble_eq_true rfl) (Nat.le_of_ble_eq_true rfl)) ((pmE_PS (NM_282 cc_len hM))) (fun q30a q30b q30c q30d hqq30 => ?_)
      obtain ⟨⟨g31, B32, rq30, eq30, hIq30, hGq30, hFq30, kq30⟩, kpq30⟩ := hqq30
      cases eq30
      refine ⟨rfl, rfl, ?_⟩
      show pmE pg (pg_X xs) pg_tyl pg_cl 41 318 1270 [.retAddr 0, .ref 0, .ref 147, .int x3] [.int rq30, .int rq12] (cd f13 A14 R15 (em g31 B32)) _
      rw [show v25 = v10 from ev25.trans ev10.symm] at h26
      exact absurd h11 h26
  · skip
    refine pe_iconstv (n := 1) (v := 1) (by decide +kernel) (by decide +kernel) ?_
    refine pe_goto (off := 4) (t := 1230) (by decide +kernel) (by decide) rfl ?_
    refine pz_callV (j := 101) (mj := 167) (by decide +kernel) (cll_V (args := [.int 1, .int v8, .int v6, .int v4, .int v2]) (n := 5) (by decide +kernel) rfl rfl cd_o0 (by decide +kernel) (Nat.le_of_ble_eq_true rfl) (Nat.le_of_ble_eq_true rfl)) ((pmE_PS (CM_167 st_XO hC))) (fun q33a q33b q33c q33d hqq33 => ?_)
    obtain ⟨⟨f34, A35, R36, rq33, eq33, hIq33, hGq33, hFq33, hHq33, kq33⟩, kpq33⟩ := hqq33
    cases eq33
    refine ⟨rfl, rfl, ?_⟩
    show pmE pg (pg_X xs) pg_tyl pg_cl 41 318 1233 [.retAddr 0, .ref 0, .ref 147, .int x3] [.int rq33] (cd f34 A35 R36 (em g B)) _
    refine pe_aload_n (j := 2) (by decide +kernel) rfl ?_
    refine pe_aloadX_n (j := 0) (by decide +kernel) rfl ?_
    refine pe_iload_n (j := 3) (by decide +kernel) rfl ?_
    refine pe_iconstv (n := 1) (v := 1) (by decide +kernel) (by decide +kernel) ?_
    refine pz_add (by decide +kernel) rfl kz_1 (by omega) (by omega) (fun z37 hz37 => ?_)
    refine pz_ialdX (n := xs.length) (by decide +kernel) (show pg_X xs 0 = some (0, xs, 0) from rfl) rfl hz37 (by omega) (by omega) (fun v38 ev38 => ?_)
    clear hz37
    refine pe_aloadX_n (j := 0) (by decide +kernel) rfl ?_
    refine pe_iload_n (j := 3) (by decide +kernel) rfl ?_
    refine pe_iconstv (n := 2) (v := 2) (by decide +kernel) (by decide +kernel) ?_
    refine pz_add (by decide +kernel) rfl kz_2 (by omega) (by omega) (fun z39 hz39 => ?_)
    refine pz_ialdX (n := xs.length) (by decide +kernel) (show pg_X xs 0 = some (0, xs, 0) from rfl) rfl hz39 (by omega) (by omega) (fun v40 ev40 => ?_)
    clear hz39
    refine pe_aloadX_n (j := 0) (by decide +kernel) rfl ?_
    refine pe_iload_n (j := 3) (by decide +kernel) rfl ?_
    refine pe_iconstv (n := 3) (v := 3) (by decide +kernel) (by decide +kernel) ?_
    refine pz_add (by decide +kernel) rfl kz_3 (by omega) (by omega) (fun z41 hz41 => ?_)
    refine pz_ialdX (n := xs.length) (by decide +kernel) (show pg_X xs 0 = some (0, xs, 0) from rfl) rfl hz41 (by omega) (by omega) (fun v42 ev42 => ?_)
    clear hz41
    refine pe_aloadX_n (j := 0) (by decide +kernel) rfl ?_
    refine pe_iload_n (j := 3) (by decide +kernel) rfl ?_
    refine pe_iconstv (n := 4) (v := 4) (by decide +kernel) (by decide +kernel) ?_
    refine pz_add (by decide +kernel) rfl kz_4 (by omega) (by omega) (fun z43 hz43 => ?_)
    refine pz_ialdX (n := xs.length) (by decide +kernel) (show pg_X xs 0 = some (0, xs, 0) from rfl) rfl hz43 (by omega) (by omega) (fun v44 ev44 => ?_)
    clear hz43
    refine pe_aloadX_n (j := 0) (by decide +kernel) rfl ?_
    refine pe_iload_n (j := 3) (by decide +kernel) rfl ?_
    refine pe_iconstv (n := 5) (v := 5) (by decide +kernel) (by decide +kernel) ?_
    refine pz_add (by decide +kernel) rfl kz_5 (by omega) (by omega) (fun z45 hz45 => ?_)
    refine pz_ialdX (n := xs.length) (by decide +kernel) (show pg_X xs 0 = some (0, xs, 0) from rfl) rfl hz45 (by omega) (by omega) (fun v46 ev46 => ?_)
    clear hz45
    refine pz_if_eq (off := 7) (t := 1266) (by decide +kernel) (by decide) rfl rfl (fun h47 => ?_) (fun h47 => ?_)
    · skip
      refine pe_iconstv (n := 0) (v := 0) (by decide +kernel) (by decide +kernel) ?_
      show pmE pg (pg_X xs) pg_tyl pg_cl 41 318 1267 [.retAddr 0, .ref 0, .ref 147, .int x3] [.int 0, .int v44, .int v42, .int v40, .int v38, .ref 147, .int rq33] (md (cc f34 A35 R36) g B) _
      refine pz_callV (j := 105) (mj := 282) (by decide +kernel) (cll_V (args := [.int 0, .int v44, .int v42, .int v40, .int v38]) (n := 5) (by decide +kernel) rfl rfl (md_o cc_len) (by decide +kernel) (Nat.le_of_ble_eq_true rfl) (Nat.le_of_ble_eq_true rfl)) ((pmE_PS (NM_282 cc_len hM))) (fun q48a q48b q48c q48d hqq48 => ?_)
      obtain ⟨⟨g49, B50, rq48, eq48, hIq48, hGq48, hFq48, kq48⟩, kpq48⟩ := hqq48
      cases eq48
      refine ⟨rfl, rfl, ?_⟩
      show pmE pg (pg_X xs) pg_tyl pg_cl 41 318 1270 [.retAddr 0, .ref 0, .ref 147, .int x3] [.int rq48, .int rq33] (cd f34 A35 R36 (em g49 B50)) _
      rw [show v46 = v10 from ev46.trans ev10.symm] at h47
      exact absurd h47 h11
    · skip
      refine pe_iconstv (n := 1) (v := 1) (by decide +kernel) (by decide +kernel) ?_
      refine pe_goto (off := 4) (t := 1267) (by decide +kernel) (by decide) rfl ?_
      show pmE pg (pg_X xs) pg_tyl pg_cl 41 318 1267 [.retAddr 0, .ref 0, .ref 147, .int x3] [.int 1, .int v44, .int v42, .int v40, .int v38, .ref 147, .int rq33] (md (cc f34 A35 R36) g B) _
      refine pz_callV (j := 105) (mj := 282) (by decide +kernel) (cll_V (args := [.int 1, .int v44, .int v42, .int v40, .int v38]) (n := 5) (by decide +kernel) rfl rfl (md_o cc_len) (by decide +kernel) (Nat.le_of_ble_eq_true rfl) (Nat.le_of_ble_eq_true rfl)) ((pmE_PS (NM_282 cc_len hM))) (fun q51a q51b q51c q51d hqq51 => ?_)
      obtain ⟨⟨g52, B53, rq51, eq51, hIq51, hGq51, hFq51, kq51⟩, kpq51⟩ := hqq51
      cases eq51
      refine ⟨rfl, rfl, ?_⟩
      show pmE pg (pg_X xs) pg_tyl pg_cl 41 318 1270 [.retAddr 0, .ref 0, .ref 147, .int x3] [.int rq51, .int rq33] (cd f34 A35 R36 (em g52 B53)) _
      obtain ⟨kA, psA⟩ := kpq33
      obtain ⟨kB, psB⟩ := kpq51
      have psA : PS (pg_X xs) kA 167 0 [.ref 0, .int v2, .int v4, .int v6, .int v8, .int 1] [] (cd f A R (em g B)) (some (.int rq33)) (cd f34 A35 R36 (em g B)) := psA
      have psB : PS (pg_X xs) kB 282 0 [.ref 147, .int v38, .int v40, .int v42, .int v44, .int 1, pm_dead] [] (cd f34 A35 R36 (em g B)) (some (.int rq51)) (cd f34 A35 R36 (em g52 B53)) := psB
      rw [show v38 = v2 from ev38.trans ev2.symm] at psB
      rw [show v40 = v4 from ev40.trans ev4.symm] at psB
      rw [show v42 = v6 from ev42.trans ev6.symm] at psB
      rw [show v44 = v8 from ev44.trans ev8.symm] at psB
      have hre := RC_20 hR.1.1 hR.2.1 psA psB
      have heq : rq33.toInt = rq51.toInt := by
        injection hre with h
        injection h with h
        rw [h]
      refine pz_icmp_eq (off := 1206) (t := 2476) (by decide +kernel) (by decide) rfl rfl rfl (fun _ => ?_) (fun hne => absurd heq hne)
      exact kk _ _ _ _ _ ⟨hIq33, hIq51, (RL5_t (hGq51 31 (by decide) (by decide) (by decide)) (hGq51 32 (by decide) (by decide) (by decide)) (RL4_fr hIq33 hIq51 (fun n hn => hGq33 n (tn hn (by decide)) (tn hn (by decide)) (tn hn (by decide))) (fun n hn => hFq33 n (tn hn (by decide)) (tn hn (by decide)) (tn hn (by decide)) (tn hn (by decide)) (tn hn (by decide)) (tn hn (by decide)) (tn hn (by decide)) (tn hn (by decide)) (tn hn (by decide)) (tn hn (by decide))) (hFq51 148 (by decide) (by decide) (by decide) (by decide) (by decide) (by decide) (by decide)) (hFq51 149 (by decide) (by decide) (by decide) (by decide) (by decide) (by decide) (by decide)) hR.1) hR)⟩
