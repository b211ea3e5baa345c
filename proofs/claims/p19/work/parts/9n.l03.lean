section
set_option maxRecDepth 100000 in
set_option maxHeartbeats 8000000 in
theorem LC_21 {xs : List Int32} {Q : pm_R → Prop} {f : Nat → Int32} {A : Nat → List Int32} {R : Nat → Value} {g : Nat → Int32} {B : Nat → List Int32} {x3 : Int32} (h3 : 0 ≤ x3.toInt) (h4 : x3.toInt + 7 ≤ xs.length) (hl : xs.length ≤ 3584) (hS : ST f A R g B) (kk : ∀ (f' : Nat → Int32) (A' : Nat → List Int32) (R' : Nat → Value) (g' : Nat → Int32) (B' : Nat → List Int32), ST f' A' R' g' B' → pmE pg (pg_X xs) pg_tyl pg_cl 41 318 2477 [.retAddr 0, .ref 0, .ref 147, .int x3] [] (cd f' A' R' (em g' B')) Q) : pmE pg (pg_X xs) pg_tyl pg_cl 41 318 1276 [.retAddr 0, .ref 0, .ref 147, .int x3] [] (cd f A R (em g B)) Q := by
  obtain ⟨hC, hM, hR⟩ := hS
  refine pe_aload_n (j := 1) (by decide +kernel) rfl ?_
  refine pe_aloadX_n (j := 0) (by decide +kernel) rfl ?_
  refine pe_iload_n (j := 3) (by decide +kernel) rfl ?_
  refine pe_iconstv (n := 1) (v := 1) (by decide +kernel) (by decide +kernel) ?_
  refine pz_add (by decide +kernel) rfl kz_1 (by omega) (by omega) (fun z1 hz1 => ?_)
  refine pz_ialdX (n := xs.length) (by decide +kernel) (show pg_X xs 0 = some (0, xs, 0) from rfl) rfl hz1 (by omega) (by omega) (fun v2 ev2 => ?_)
  clear hz1
  refine pe_aloadX_n (j := 0) (by decide +kernel) rfl ?_
  refine pe_iload_n (j := 3) (by decide +kernel) rfl ?_
  refine pe_iconstv (n := 2) (v := 2) (by decide +kernel) (by decide +kernel) ?_
  refine pz_add (by decide +kernel) rfl kz_2 (by omega) (by omega) (fun z3 hz3 => ?_)
  refine pz_ialdX (n := xs.length) (by decide +kernel) (show pg_X xs 0 = some (0, xs, 0) from rfl) rfl hz3 (by omega) (by omega) (fun v4 ev4 => ?_)
  clear hz3
  refine pe_aloadX_n (j := 0) (by decide +kernel) rfl ?_
  refine pe_iload_n (j := 3) (by decide +kernel) rfl ?_
  refine pe_iconstv (n := 3) (v := 3) (by decide +kernel) (by decide +kernel) ?_
  refine pz_add (by decide +kernel) rfl kz_3 (by omega) (by omega) (fun z5 hz5 => ?_)
  refine pz_ialdX (n := xs.length) (by decide +kernel) (show pg_X xs 0 = some (0, xs, 0) from rfl) rfl hz5 (by omega) (by omega) (fun v6 ev6 => ?_)
  clear hz5
  refine pe_aloadX_n (j := 0) (by decide +kernel) rfl ?_
  refine pe_iload_n (j := 3) (by decide +kernel) rfl ?_
  refine pe_iconstv (n := 4) (v := 4) (by decide +kernel) (by decide +kernel) ?_
  refine pz_add (by decide +kernel) rfl kz_4 (by omega) (by omega) (fun z7 hz7 => ?_)
  refine pz_ialdX (n := xs.length) (by decide +kernel) (show pg_X xs 0 = some (0, xs, 0) from rfl) rfl hz7 (by omega) (by omega) (fun v8 ev8 => ?_)
  clear hz7
  refine pz_if_eq (off := 7) (t := 1304) (by decide +kernel) (by decide) rfl rfl (fun h9 => ?_) (fun h9 => ?_)
  · skip
    refine pe_iconstv (n := 0) (v := 0) (by decide +kernel) (by decide +kernel) ?_
    refine pe_aloadX_n (j := 0) (by decide +kernel) rfl ?_
    refine pe_iload_n (j := 3) (by decide +kernel) rfl ?_
    refine pe_iconstv (n := 5) (v := 5) (by decide +kernel) (by decide +kernel) ?_
    refine pz_add (by decide +kernel) rfl kz_5 (by omega) (by omega) (fun z10 hz10 => ?_)
    refine pz_ialdX (n := xs.length) (by decide +kernel) (show pg_X xs 0 = some (0, xs, 0) from rfl) rfl hz10 (by omega) (by omega) (fun v11 ev11 => ?_)
    clear hz10
    refine pz_if_eq (off := 7) (t := 1317) (by decide +kernel) (by decide) rfl rfl (fun h12 => ?_) (fun h12 => ?_)
    · skip
      refine pe_iconstv (n := 0) (v := 0) (by decide +kernel) (by decide +kernel) ?_
      refine pz_callV (j := 106) (mj := 172) (by decide +kernel) (cll_V (args := [.int 0, .int 0, .int v6, .int v4, .int v2]) (n := 5) (by decide +kernel) rfl rfl cd_o0 (by decide +kernel) (Nat.le_of_ble_eq_true rfl) (Nat.le_of_ble_eq_true rfl)) (CM_172 st_XO hC) (fun q13a q13b q13c q13d hqq13 => ?_)
      obtain ⟨f14, A15, R16, rq13, eq13, hIq13, hGq13, hFq13, hHq13, kq13⟩ := hqq13
      cases eq13
      refine ⟨rfl, rfl, ?_⟩
      show pmE pg (pg_X xs) pg_tyl pg_cl 41 318 1321 [.retAddr 0, .ref 0, .ref 147, .int x3] [.int rq13] (cd f14 A15 R16 (em g B)) _
      refine pe_pop (by decide +kernel) rfl ?_
      refine pe_aload_n (j := 2) (by decide +kernel) rfl ?_
      refine pe_aloadX_n (j := 0) (by decide +kernel) rfl ?_
      refine pe_iload_n (j := 3) (by decide +kernel) rfl ?_
      refine pe_iconstv (n := 1) (v := 1) (by decide +kernel) (by decide +kernel) ?_
      refine pz_add (by decide +kernel) rfl kz_1 (by omega) (by omega) (fun z17 hz17 => ?_)
      refine pz_ialdX (n := xs.length) (by decide +kernel) (show pg_X xs 0 = some (0, xs, 0) from rfl) rfl hz17 (by omega) (by omega) (fun v18 ev18 => ?_)
      clear hz17
      refine pe_aloadX_n (j := 0) (by decide +kernel) rfl ?_
      refine pe_iload_n (j := 3) (by decide +kernel) rfl ?_
      refine pe_iconstv (n := 2) (v := 2) (by decide +kernel) (by decide +kernel) ?_
      refine pz_add (by decide +kernel) rfl kz_2 (by omega) (by omega) (fun z19 hz19 => ?_)
      refine pz_ialdX (n := xs.length) (by decide +kernel) (show pg_X xs 0 = some (0, xs, 0) from rfl) rfl hz19 (by omega) (by omega) (fun v20 ev20 => ?_)
      clear hz19
      refine pe_aloadX_n (j := 0) (by decide +kernel) rfl ?_
      refine pe_iload_n (j := 3) (by decide +kernel) rfl ?_
      refine pe_iconstv (n := 3) (v := 3) (by decide +kernel) (by decide +kernel) ?_
      refine pz_add (by decide +kernel) rfl kz_3 (by omega) (by omega) (fun z21 hz21 => ?_)
      refine pz_ialdX (n := xs.length) (by decide +kernel) (show pg_X xs 0 = some (0, xs, 0) from rfl) rfl hz21 (by omega) (by omega) (fun v22 ev22 => ?_)
      clear hz21
      refine pe_aloadX_n (j := 0) (by decide +kernel) rfl ?_
      refine pe_iload_n (j := 3) (by decide +kernel) rfl ?_
      refine pe_iconstv (n := 4) (v := 4) (by decide +kernel) (by decide +kernel) ?_
      refine pz_add (by decide +kernel) rfl kz_4 (by omega) (by omega) (fun z23 hz23 => ?_)
      refine pz_ialdX (n := xs.length) (by decide +kernel) (show pg_X xs 0 = some (0, xs, 0) from rfl) rfl hz23 (by omega) (by omega) (fun v24 ev24 => ?_)
      clear hz23
      refine pz_if_eq (off := 7) (t := 1350) (by decide +kernel) (by decide) rfl rfl (fun h25 => ?_) (fun h25 => ?_)
      · skip
        refine pe_iconstv (n := 0) (v := 0) (by decide +kernel) (by decide +kernel) ?_
        refine pe_aloadX_n (j := 0) (by decide +kernel) rfl ?_
        refine pe_iload_n (j := 3) (by decide +kernel) rfl ?_
        refine pe_iconstv (n := 5) (v := 5) (by decide +kernel) (by decide +kernel) ?_
        refine pz_add (by decide +kernel) rfl kz_5 (by omega) (by omega) (fun z26 hz26 => ?_)
        refine pz_ialdX (n := xs.length) (by decide +kernel) (show pg_X xs 0 = some (0, xs, 0) from rfl) rfl hz26 (by omega) (by omega) (fun v27 ev27 => ?_)
        clear hz26
        refine pz_if_eq (off := 7) (t := 1363) (by decide +kernel) (by decide) rfl rfl (fun h28 => ?_) (fun h28 => ?_)
        · skip
          refine pe_iconstv (n := 0) (v := 0) (by decide +kernel) (by decide +kernel) ?_
          show pmE pg (pg_X xs) pg_tyl pg_cl 41 318 1364 [.retAddr 0, .ref 0, .ref 147, .int x3] [.int 0, .int 0, .int v22, .int v20, .int v18, .ref 147] (md (cc f14 A15 R16) g B) _
          refine pz_callV (j := 110) (mj := 286) (by decide +kernel) (cll_V (args := [.int 0, .int 0, .int v22, .int v20, .int v18]) (n := 5) (by decide +kernel) rfl rfl (md_o cc_len) (by decide +kernel) (Nat.le_of_ble_eq_true rfl) (Nat.le_of_ble_eq_true rfl)) (NM_286 cc_len hM) (fun q29a q29b q29c q29d hqq29 => ?_)
          obtain ⟨g30, B31, rq29, eq29, hIq29, hGq29, hFq29, kq29⟩ := hqq29
          cases eq29
          refine ⟨rfl, rfl, ?_⟩
          show pmE pg (pg_X xs) pg_tyl pg_cl 41 318 1367 [.retAddr 0, .ref 0, .ref 147, .int x3] [.int rq29] (cd f14 A15 R16 (em g30 B31)) _
          refine pe_pop (by decide +kernel) rfl ?_
          refine pe_goto (off := 1109) (t := 2477) (by decide +kernel) (by decide) rfl ?_
          exact kk _ _ _ _ _ ⟨hIq13, hIq29, (RL5_t (hGq29 31 (by decide) (by decide) (by decide)) (hGq29 32 (by decide) (by decide) (by decide)) (RL4_fr hIq13 hIq29 (fun n hn => hGq13 n (tn hn (by decide)) (tn hn (by decide)) (tn hn (by decide))) (fun n hn => hFq13 n (tn hn (by decide)) (tn hn (by decide)) (tn hn (by decide)) (tn hn (by decide)) (tn hn (by decide)) (tn hn (by decide)) (tn hn (by decide)) (tn hn (by decide)) (tn hn (by decide)) (tn hn (by decide))) (hFq29 148 (by decide) (by decide) (by decide) (by decide) (by decide) (by decide) (by decide)) (hFq29 149 (by decide) (by decide) (by decide) (by decide) (by decide) (by decide) (by decide)) hR.1) hR)⟩
        · skip
          refine pe_iconstv (n := 1) (v := 1) (by decide +kernel) (by decide +kernel) ?_
          refine pe_goto (off := 4) (t := 1364) (by decide +kernel) (by decide) rfl ?_
          show pmE pg (pg_X xs) pg_tyl pg_cl 41 318 1364 [.retAddr 0, .ref 0, .ref 147, .int x3] [.int 1, .int 0, .int v22, .int v20, .int v18, .ref 147] (md (cc f14 A15 R16) g B) _
          refine pz_callV (j := 110) (mj := 286) (by decide +kernel) (cll_V (args := [.int 1, .int 0, .int v22, .int v20, .int v18]) (n := 5) (by decide +kernel) rfl rfl (md_o cc_len) (by decide +kernel) (Nat.le_of_ble_eq_true rfl) (Nat.le_of_ble_eq_true rfl)) (NM_286 cc_len hM) (fun q32a q32b q32c q32d hqq32 => ?_)
          obtain ⟨g33, B34, rq32, eq32, hIq32, hGq32, hFq32, kq32⟩ := hqq32
          cases eq32
          refine ⟨rfl, rfl, ?_⟩
          show pmE pg (pg_X xs) pg_tyl pg_cl 41 318 1367 [.retAddr 0, .ref 0, .ref 147, .int x3] [.int rq32] (cd f14 A15 R16 (em g33 B34)) _
          refine pe_pop (by decide +kernel) rfl ?_
          refine pe_goto (off := 1109) (t := 2477) (by decide +kernel) (by decide) rfl ?_
          exact kk _ _ _ _ _ ⟨hIq13, hIq32, (RL5_t (hGq32 31 (by decide) (by decide) (by decide)) (hGq32 32 (by decide) (by decide) (by decide)) (RL4_fr hIq13 hIq32 (fun n hn => hGq13 n (tn hn (by decide)) (tn hn (by decide)) (tn hn (by decide))) (fun n hn => hFq13 n (tn hn (by decide)) (tn hn (by decide)) (tn hn (by decide)) (tn hn (by decide)) (tn hn (by decide)) (tn hn (by decide)) (tn hn (by decide)) (tn hn (by decide)) (tn hn (by decide)) (tn hn (by decide))) (hFq32 148 (by decide) (by decide) (by decide) (by decide) (by decide) (by decide) (by decide)) (hFq32 149 (by decide) (by decide) (by decide) (by decide) (by decide) (by decide) (by decide)) hR.1) hR)⟩
      · skip
        refine pe_iconstv (n := 1) (v := 1) (by decide +kernel) (by decide +kernel) ?_
        refine pe_goto (off := 4) (t := 1351) (by decide +kernel) (by decide) rfl ?_
        refine pe_aloadX_n (j := 0) (by decide +kernel) rfl ?_
        refine pe_iload_n (j := 3) (by decide +kernel) rfl ?_
        refine pe_iconstv (n := 5) (v := 5) (by decide +kernel) (by decide +kernel) ?_
        refine pz_add (by decide +kernel) rfl kz_5 (by omega) (by omega) (fun z35 hz35 => ?_)
        refine pz_ialdX (n := xs.length) (by decide +kernel) (show pg_X xs 0 = some (0, xs, 0) from rfl) rfl hz35 (by omega) (by omega) (fun v36 ev36 => ?_)
        clear hz35
        refine pz_if_eq (off := 7) (t := 1363) (by decide +kernel) (by decide) rfl rfl (fun h37 => ?_) (fun h37 => ?_)
        · skip
          refine pe_iconstv (n := 0) (v := 0) (by decide +kernel) (by decide +kernel) ?_
          show pmE pg (pg_X xs) pg_tyl pg_cl 41 318 1364 [.retAddr 0, .ref 0, .ref 147, .int x3] [.int 0, .int 1, .int v22, .int v20, .int v18, .ref 147] (md (cc f14 A15 R16) g B) _
          refine pz_callV (j := 110) (mj := 286) (by decide +kernel) (cll_V (args := [.int 0, .int 1, .int v22, .int v20, .int v18]) (n := 5) (by decide +kernel) rfl rfl (md_o cc_len) (by decide +kernel) (Nat.le_of_ble_eq_true rfl) (Nat.le_of_ble_eq_true rfl)) (NM_286 cc_len hM) (fun q38a q38b q38c q38d hqq38 => ?_)
          obtain ⟨g39, B40, rq38, eq38, hIq38, hGq38, hFq38, kq38⟩ := hqq38
          cases eq38
          refine ⟨rfl, rfl, ?_⟩
          show pmE pg (pg_X xs) pg_tyl pg_cl 41 318 1367 [.retAddr 0, .ref 0, .ref 147, .int x3] [.int rq38] (cd f14 A15 R16 (em g39 B40)) _
          refine pe_pop (by decide +kernel) rfl ?_
          refine pe_goto (off := 1109) (t := 2477) (by decide +kernel) (by decide) rfl ?_
          exact kk _ _ _ _ _ ⟨hIq13, hIq38, (RL5_t (hGq38 31 (by decide) (by decide) (by decide)) (hGq38 32 (by decide) (by decide) (by decide)) (RL4_fr hIq13 hIq38 (fun n hn => hGq13 n (tn hn (by decide)) (tn hn (by decide)) (tn hn (by decide))) (fun n hn => hFq13 n (tn hn (by decide)) (tn hn (by decide)) (tn hn (by decide)) (tn hn (by decide)) (tn hn (by decide)) (tn hn (by decide)) (tn hn (by decide)) (tn hn (by decide)) (tn hn (by decide)) (tn hn (by decide))) (hFq38 148 (by decide) (by decide) (by decide) (by decide) (by decide) (by decide) (by decide)) (hFq38 149 (by decide) (by decide) (by decide) (by decide) (by decide) (by decide) (by decide)) hR.1) hR)⟩
        · skip
          refine pe_iconstv (n := 1) (v := 1) (by decide +kernel) (by decide +kernel) ?_
          refine pe_goto (off := 4) (t := 1364) (by decide +kernel) (by decide) rfl ?_
          show pmE pg (pg_X xs) pg_tyl pg_cl 41 318 1364 [.retAddr 0, .ref 0, .ref 147, .int x3] [.int 1, .int 1, .int v22, .int v20, .int v18, .ref 147] (md (cc f14 A15 R16) g B) _
          refine pz_callV (j := 110) (mj := 286) (by decide +kernel) (cll_V (args := [.int 1, .int 1, .int v22, .int v20, .int v18]) (n := 5) (by decide +kernel) rfl rfl (md_o cc_len) (by decide +kernel) (Nat.le_of_ble_eq_true rfl) (Nat.le_of_ble_eq_true rfl)) (NM_286 cc_len hM) (fun q41a q41b q41c q41d hqq41 => ?_)
          obtain ⟨g42, B43, rq41, eq41, hIq41, hGq41, hFq41, kq41⟩ := hqq41
          cases eq41
          refine ⟨rfl, rfl, ?_⟩
          show pmE pg (pg_X xs) pg_tyl pg_cl 41 318 1367 [.retAddr 0, .ref 0, .ref 147, .int x3] [.int rq41] (cd f14 A15 R16 (em g42 B43)) _
          refine pe_pop (by decide +kernel) rfl ?_
          refine pe_goto (off := 1109) (t := 2477) (by decide +kernel) (by decide) rfl ?_
          exact kk _ _ _ _ _ ⟨hIq13, hIq41, (RL5_t (hGq41 31 (by decide) (by decide) (by decide)) (hGq41 32 (by decide) (by decide) (by decide)) (RL4_fr hIq13 hIq41 (fun n hn => hGq13 n (tn hn (by decide)) (tn hn (by decide)) (tn hn (by decide))) (fun n hn => hFq13 n (tn hn (by decide)) (tn hn (by decide)) (tn hn (by decide)) (tn hn (by decide)) (tn hn (by decide)) (tn hn (by decide)) (tn hn (by decide)) (tn hn (by decide)) (tn hn (by decide)) (tn hn (by decide))) (hFq41 148 (by decide) (by decide) (by decide) (by decide) (by decide) (by decide) (by decide)) (hFq41 149 (by decide) (by decide) (by decide) (by decide) (by decide) (by decide) (by decide)) hR.1) hR)⟩
    · skip
      refine pe_iconstv (n := 1) (v := 1) (by decide +kernel) (by decide +kernel) ?_
      refine pe_goto (off := 4) (t := 1318) (by decide +kernel) (by decide) rfl ?_
      refine pz_callV (j := 106) (mj := 172) (by decide +kernel) (cll_V (args := [.int 1, .int 0, .int v6, .int v4, .int v2]) (n := 5) (by decide +kernel) rfl rfl cd_o0 (by decide +kernel) (Nat.le_of_ble_eq_true rfl) (Nat.le_of_ble_eq_true rfl)) (CM_172 st_XO hC) (fun q44a q44b q44c q44d hqq44 => ?_)
      obtain ⟨f45, A46, R47, rq44, eq44, hIq44, hGq44, hFq44, hHq44, kq44⟩ := hqq44
      cases eq44
      refine ⟨rfl, rfl, ?_⟩
      show pmE pg (pg_X xs) pg_tyl pg_cl 41 318 1321 [.retAddr 0, .ref 0, .ref 147, .int x3] [.int rq44] (cd f45 A46 R47 (em g B)) _
      refine pe_pop (by decide +kernel) rfl ?_
      refine pe_aload_n (j := 2) (by decide +kernel) rfl ?_
      refine pe_aloadX_n (j := 0) (by decide +kernel) rfl ?_
      refine pe_iload_n (j := 3) (by decide +kernel) rfl ?_
      refine pe_iconstv (n := 1) (v := 1) (by decide +kernel) (by decide +kernel) ?_
      refine pz_add (by decide +kernel) rfl kz_1 (by omega) (by omega) (fun z48 hz48 => ?_)
      refine pz_ialdX (n := xs.length) (by decide +kernel) (show pg_X xs 0 = some (0, xs, 0) from rfl) rfl hz48 (by omega) (by omega) (fun v49 ev49 => ?_)
      clear hz48
      refine pe_aloadX_n (j := 0) (by decide +kernel) rfl ?_
      refine pe_iload_n (j := 3) (by decide +kernel) rfl ?_
      refine pe_iconstv (n := 2) (v := 2) (by decide +kernel) (by decide +kernel) ?_
      refine pz_add (by decide +kernel) rfl kz_2 (by omega) (by omega) (fun z50 hz50 => ?_)
      refine pz_ialdX (n := xs.length) (by decide +kernel) (show pg_X xs 0 = some (0, xs, 0) from rfl) rfl hz50 (by omega) (by omega) (fun v51 ev51 => ?_)
      clear hz50
      refine pe_aloadX_n (j := 0) (by decide +kernel) rfl ?_
      refine pe_iload_n (j := 3) (by decide +kernel) rfl ?_
      refine pe_iconstv (n := 3) (v := 3) (by decide +kernel) (by decide +kernel) ?_
      refine pz_add (by decide +kernel) rfl kz_3 (by omega) (by omega) (fun z52 hz52 => ?_)
      refine pz_ialdX (n := xs.length) (by decide +kernel) (show pg_X xs 0 = some (0, xs, 0) from rfl) rfl hz52 (by omega) (by omega) (fun v53 ev53 => ?_)
      clear hz52
      refine pe_aloadX_n (j := 0) (by decide +kernel) rfl ?_
      refine pe_iload_n (j := 3) (by decide +kernel) rfl ?_
      refine pe_iconstv (n := 4) (v := 4) (by decide +kernel) (by decide +kernel) ?_
      refine pz_add (by decide +kernel) rfl kz_4 (by omega) (by omega) (fun z54 hz54 => ?_)
      refine pz_ialdX (n := xs.length) (by decide +kernel) (show pg_X xs 0 = some (0, xs, 0) from rfl) rfl hz54 (by omega) (by omega) (fun v55 ev55 => ?_)
      clear hz54
      refine pz_if_eq (off := 7) (t := 1350) (by decide +kernel) (by decide) rfl rfl (fun h56 => ?_) (fun h56 => ?_)
      · skip
        refine pe_iconstv (n := 0) (v := 0) (by decide +kernel) (by decide +kernel) ?_
        refine pe_aloadX_n (j := 0) (by decide +kernel) rfl ?_
        refine pe_iload_n (j := 3) (by decide +kernel) rfl ?_
        refine pe_iconstv (n := 5) (v := 5) (by decide +kernel) (by decide +kernel) ?_
        refine pz_add (by decide +kernel) rfl kz_5 (by omega) (by omega) (fun z57 hz57 => ?_)
        refine pz_ialdX (n := xs.length) (by decide +kernel) (show pg_X xs 0 = some (0, xs, 0) from rfl) rfl hz57 (by omega) (by omega) (fun v58 ev58 => ?_)
        clear hz57
        refine pz_if_eq (off := 7) (t := 1363) (by decide +kernel) (by decide) rfl rfl (fun h59 => ?_) (fun h59 => ?_)
        · skip
          refine pe_iconstv (n := 0) (v := 0) (by decide +kernel) (by decide +kernel) ?_
          show pmE pg (pg_X xs) pg_tyl pg_cl 41 318 1364 [.retAddr 0, .ref 0, .ref 147, .int x3] [.int 0, .int 0, .int v53, .int v51, .int v49, .ref 147] (md (cc f45 A46 R47) g B) _
          refine pz_callV (j := 110) (mj := 286) (by decide +kernel) (cll_V (args := [.int 0, .int 0, .int v53, .int v51, .int v49]) (n := 5) (by decide +kernel) rfl rfl (md_o cc_len) (by decide +kernel) (Nat.le_of_ble_eq_true rfl) (Nat.le_of_ble_eq_true rfl)) (NM_286 cc_len hM) (fun q60a q60b q60c q60d hqq60 => ?_)
          obtain ⟨g61, B62, rq60, eq60, hIq60, hGq60, hFq60, kq60⟩ := hqq60
          cases eq60
          refine ⟨rfl, rfl, ?_⟩
          show pmE pg (pg_X xs) pg_tyl pg_cl 41 318 1367 [.retAddr 0, .ref 0, .ref 147, .int x3] [.int rq60] (cd f45 A46 R47 (em g61 B62)) _
          refine pe_pop (by decide +kernel) rfl ?_
          refine pe_goto (off := 1109) (t := 2477) (by decide +kernel) (by decide) rfl ?_
          exact kk _ _ _ _ _ ⟨hIq44, hIq60, (RL5_t (hGq60 31 (by decide) (by decide) (by decide)) (hGq60 32 (by decide) (by decide) (by decide)) (RL4_fr hIq44 hIq60 (fun n hn => hGq44 n (tn hn (by decide)) (tn hn (by decide)) (tn hn (by decide))) (fun n hn => hFq44 n (tn hn (by decide)) (tn hn (by decide)) (tn hn (by decide)) (tn hn (by decide)) (tn hn (by decide)) (tn hn (by decide)) (tn hn (by decide)) (tn hn (by decide)) (tn hn (by decide)) (tn hn (by decide))) (hFq60 148 (by decide) (by decide) (by decide) (by decide) (by decide) (by decide) (by decide)) (hFq60 149 (by decide) (by decide) (by decide) (by decide) (by decide) (by decide) (by decide)) hR.1) hR)⟩
        · skip
          refine pe_iconstv (n := 1) (v := 1) (by decide +kernel) (by decide +kernel) ?_
          refine pe_goto (off := 4) (t := 1364) (by decide +kernel) (by decide) rfl ?_
          show pmE pg (pg_X xs) pg_tyl pg_cl 41 318 1364 [.retAddr 0, .ref 0, .ref 147, .int x3] [.int 1, .int 0, .int v53, .int v51, .int v49, .ref 147] (md (cc f45 A46 R47) g B) _
          refine pz_callV (j := 110) (mj := 286) (by decide +kernel) (cll_V (args := [.int 1, .int 0, .int v53, .int v51, .int v49]) (n := 5) (by decide +kernel) rfl rfl (md_o cc_len) (by decide +kernel) (Nat.le_of_ble_eq_true rfl) (Nat.le_of_ble_eq_true rfl)) (NM_286 cc_len hM) (fun q63a q63b q63c q63d hqq63 => ?_)
          obtain ⟨g64, B65, rq63, eq63, hIq63, hGq63, hFq63, kq63⟩ := hqq63
          cases eq63
          refine ⟨rfl, rfl, ?_⟩
          show pmE pg (pg_X xs) pg_tyl pg_cl 41 318 1367 [.retAddr 0, .ref 0, .ref 147, .int x3] [.int rq63] (cd f45 A46 R47 (em g64 B65)) _
          refine pe_pop (by decide +kernel) rfl ?_
          refine pe_goto (off := 1109) (t := 2477) (by decide +kernel) (by decide) rfl ?_
          exact kk _ _ _ _ _ ⟨hIq44, hIq63, (RL5_t (hGq63 31 (by decide) (by decide) (by decide)) (hGq63 32 (by decide) (by decide) (by decide)) (RL4_fr hIq44 hIq63 (fun n hn => hGq44 n (tn hn (by decide)) (tn hn (by decide)) (tn hn (by decide))) (fun n hn => hFq44 n (tn hn (by decide)) (tn hn (by decide)) (tn hn (by decide)) (tn hn (by decide)) (tn hn (by decide)) (tn hn (by decide)) (tn hn (by decide)) (tn hn (by decide)) (tn hn (by decide)) (tn hn (by decide))) (hFq63 148 (by decide) (by decide) (by decide) (by decide) (by decide) (by decide) (by decide)) (hFq63 149 (by decide) (by decide) (by decide) (by decide) (by decide) (by decide) (by decide)) hR.1) hR)⟩
      · skip
        refine pe_iconstv (n := 1) (v := 1) (by decide +kernel) (by decide +kernel) ?_
        refine pe_goto (off := 4) (t := 1351) (by decide +kernel) (by decide) rfl ?_
        refine pe_aloadX_n (j := 0) (by decide +kernel) rfl ?_
        refine pe_iload_n (j := 3) (by decide +kernel) rfl ?_
        refine pe_iconstv (n := 5) (v := 5) (by decide +kernel) (by decide +kernel) ?_
        refine pz_add (by decide +kernel) rfl kz_5 (by omega) (by omega) (fun z66 hz66 => ?_)
        refine pz_ialdX (n := xs.length) (by decide +kernel) (show pg_X xs 0 = some (0, xs, 0) from rfl) rfl hz66 (by omega) (by omega) (fun v67 ev67 => ?_)
        clear hz66
        refine pz_if_eq (off := 7) (t := 1363) (by decide +kernel) (by decide) rfl rfl (fun h68 => ?_) (fun h68 => ?_)
        · skip
          refine pe_iconstv (n := 0) (v := 0) (by decide +kernel) (by decide +kernel) ?_
          show pmE pg (pg_X xs) pg_tyl pg_cl 41 318 1364 [.retAddr 0, .ref 0, .ref 147, .int x3] [.int 0, .int 1, .int v53, .int v51, .int v49, .ref 147] (md (cc f45 A46 R47) g B) _
          refine pz_callV (j := 110) (mj := 286) (by decide +kernel) (cll_V (args := [.int 0, .int 1, .int v53, .int v51, .int v49]) (n := 5) (by decide +kernel) rfl rfl (md_o cc_len) (by decide +kernel) (Nat.le_of_ble_eq_true rfl) (Nat.le_of_ble_eq_true rfl)) (NM_286 cc_len hM) (fun q69a q69b q69c q69d hqq69 => ?_)
          obtain ⟨g70, B71, rq69, eq69, hIq69, hGq69, hFq69, kq69⟩ := hqq69
          cases eq69
          refine ⟨rfl, rfl, ?_⟩
          show pmE pg (pg_X xs) pg_tyl pg_cl 41 318 1367 [.retAddr 0, .ref 0, .ref 147, .int x3] [.int rq69] (cd f45 A46 R47 (em g70 B71)) _
          refine pe_pop (by decide +kernel) rfl ?_
          refine pe_goto (off := 1109) (t := 2477) (by decide +kernel) (by decide) rfl ?_
          exact kk _ _ _ _ _ ⟨hIq44, hIq69, (RL5_t (hGq69 31 (by decide) (by decide) (by decide)) (hGq69 32 (by decide) (by decide) (by decide)) (RL4_fr hIq44 hIq69 (fun n hn => hGq44 n (tn hn (by decide)) (tn hn (by decide)) (tn hn (by decide))) (fun n hn => hFq44 n (tn hn (by decide)) (tn hn (by decide)) (tn hn (by decide)) (tn hn (by decide)) (tn hn (by decide)) (tn hn (by decide)) (tn hn (by decide)) (tn hn (by decide)) (tn hn (by decide)) (tn hn (by decide))) (hFq69 148 (by decide) (by decide) (by decide) (by decide) (by decide) (by decide) (by decide)) (hFq69 149 (by decide) (by decide) (by decide) (by decide) (by decide) (by decide) (by decide)) hR.1) hR)⟩
        · skip
          refine pe_iconstv (n := 1) (v := 1) (by decide +kernel) (by decide +kernel) ?_
          refine pe_goto (off := 4) (t := 1364) (by decide +kernel) (by decide) rfl ?_
          show pmE pg (pg_X xs) pg_tyl pg_cl 41 318 1364 [.retAddr 0, .ref 0, .ref 147, .int x3] [.int 1, .int 1, .int v53, .int v51, .int v49, .ref 147] (md (cc f45 A46 R47) g B) _
          refine pz_callV (j := 110) (mj := 286) (by decide +kernel) (cll_V (args := [.int 1, .int 1, .int v53, .int v51, .int v49]) (n := 5) (by decide +kernel) rfl rfl (md_o cc_len) (by decide +kernel) (Nat.le_of_ble_eq_true rfl) (Nat.le_of_ble_eq_true rfl)) (NM_286 cc_len hM) (fun q72a q72b q72c q72d hqq72 => ?_)
          obtain ⟨g73, B74, rq72, eq72, hIq72, hGq72, hFq72, kq72⟩ := hqq72
          cases eq72
          refine ⟨rfl, rfl, ?_⟩
          show pmE pg (pg_X xs) pg_tyl pg_cl 41 318 1367 [.retAddr 0, .ref 0, .ref 147, .int x3] [.int rq72] (cd f45 A46 R47 (em g73 B74)) _
          refine pe_pop (by decide +kernel) rfl ?_
          refine pe_goto (off := 1109) (t := 2477) (by decide +kernel) (by decide) rfl ?_
          exact kk _ _ _ _ _ ⟨hIq44, hIq72, (RL5_t (hGq72 31 (by decide) (by decide) (by decide)) (hGq72 32 (by decide) (by decide) (by decide)) (RL4_fr hIq44 hIq72 (fun n hn => hGq44 n (tn hn (by decide)) (tn hn (by decide)) (tn hn (by decide))) (fun n hn => hFq44 n (tn hn (by decide)) (tn hn (by decide)) (tn hn (by decide)) (tn hn (by decide)) (tn hn (by decide)) (tn hn (by decide)) (tn hn (by decide)) (tn hn (by decide)) (tn hn (by decide)) (tn hn (by decide))) (hFq72 148 (by decide) (by decide) (by decide) (by decide) (by decide) (by decide) (by decide)) (hFq72 149 (by decide) (by decide) (by decide) (by decide) (by decide) (by decide) (by decide)) hR.1) hR)⟩
  · skip
    refine pe_iconstv (n := 1) (v := 1) (by decide +kernel) (by decide +kernel) ?_
    refine pe_goto (off := 4) (t := 1305) (by decide +kernel) (by decide) rfl ?_
    refine pe_aloadX_n (j := 0) (by decide +kernel) rfl ?_
    refine pe_iload_n (j := 3) (by decide +kernel) rfl ?_
    refine pe_iconstv (n := 5) (v := 5) (by decide +kernel) (by decide +kernel) ?_
    refine pz_add (by decide +kernel) rfl kz_5 (by omega) (by omega) (fun z75 hz75 => ?_)
    refine pz_ialdX (n := xs.length) (by decide +kernel) (show pg_X xs 0 = some (0, xs, 0) from rfl) rfl hz75 (by omega) (by omega) (fun v76 ev76 => ?_)
    clear hz75
    refine pz_if_eq (off := 7) (t := 1317) (by decide +kernel) (by decide) rfl rfl (fun h77 => ?_) (fun h77 => ?_)
    · skip
      refine pe_iconstv (n := 0) (v := 0) (by decide +kernel) (by decide +kernel) ?_
      refine pz_callV (j := 106) (mj := 172) (by decide +kernel) (cll_V (args := [.int 0, .int 1, .int v6, .int v4, .int v2]) (n := 5) (by decide +kernel) rfl rfl cd_o0 (by decide +kernel) (Nat.le_of_ble_eq_true rfl) (Nat.le_of_ble_eq_true rfl)) (CM_172 st_XO hC) (fun q78a q78b q78c q78d hqq78 => ?_)
      obtain ⟨f79, A80, R81, rq78, eq78, hIq78, hGq78, hFq78, hHq78, kq78⟩ := hqq78
      cases eq78
      refine ⟨rfl, rfl, ?_⟩
      show pmE pg (pg_X xs) pg_tyl pg_cl 41 318 1321 [.retAddr 0, .ref 0, .ref 147, .int x3] [.int rq78] (cd f79 A80 R81 (em g B)) _
      refine pe_pop (by decide +kernel) rfl ?_
      refine pe_aload_n (j := 2) (by decide +kernel) rfl ?_
      refine pe_aloadX_n (j := 0) (by decide +kernel) rfl ?_
      refine pe_iload_n (j := 3) (by decide +kernel) rfl ?_
      refine pe_iconstv (n := 1) (v := 1) (by decide +kernel) (by decide +kernel) ?_
      refine pz_add (by decide +kernel) rfl kz_1 (by omega) (by omega) (fun z82 hz82 => ?_)
      refine pz_ialdX (n := xs.length) (by decide +kernel) (show pg_X xs 0 = some (0, xs, 0) from rfl) rfl hz82 (by omega) (by omega) (fun v83 ev83 => ?_)
      clear hz82
      refine pe_aloadX_n (j := 0) (by decide +kernel) rfl ?_
      refine pe_iload_n (j := 3) (by decide +kernel) rfl ?_
      refine pe_iconstv (n := 2) (v := 2) (by decide +kernel) (by decide +kernel) ?_
      refine pz_add (by decide +kernel) rfl kz_2 (by omega) (by omega) (fun z84 hz84 => ?_)
      refine pz_ialdX (n := xs.length) (by decide +kernel) (show pg_X xs 0 = some (0, xs, 0) from rfl) rfl hz84 (by omega) (by omega) (fun v85 ev85 => ?_)
      clear hz84
      refine pe_aloadX_n (j := 0) (by decide +kernel) rfl ?_
      refine pe_iload_n (j := 3) (by decide +kernel) rfl ?_
      refine pe_iconstv (n := 3) (v := 3) (by decide +kernel) (by decide +kernel) ?_
      refine pz_add (by decide +kernel) rfl kz_3 (by omega) (by omega) (fun z86 hz86 => ?_)
      refine pz_ialdX (n := xs.length) (by decide +kernel) (show pg_X xs 0 = some (0, xs, 0) from rfl) rfl hz86 (by omega) (by omega) (fun v87 ev87 => ?_)
      clear hz86
      refine pe_aloadX_n (j := 0) (by decide +kernel) rfl ?_
      refine pe_iload_n (j := 3) (by decide +kernel) rfl ?_
      refine pe_iconstv (n := 4) (v := 4) (by decide +kernel) (by decide +kernel) ?_
      refine pz_add (by decide +kernel) rfl kz_4 (by omega) (by omega) (fun z88 hz88 => ?_)
      refine pz_ialdX (n := xs.length) (by decide +kernel) (show pg_X xs 0 = some (0, xs, 0) from rfl) rfl hz88 (by omega) (by omega) (fun v89 ev89 => ?_)
      clear hz88
      refine pz_if_eq (off := 7) (t := 1350) (by decide +kernel) (by decide) rfl rfl (fun h90 => ?_) (fun h90 => ?_)
      · skip
        refine pe_iconstv (n := 0) (v := 0) (by decide +kernel) (by decide +kernel) ?_
        refine pe_aloadX_n (j := 0) (by decide +kernel) rfl ?_
        refine pe_iload_n (j := 3) (by decide +kernel) rfl ?_
        refine pe_iconstv (n := 5) (v := 5) (by decide +kernel) (by decide +kernel) ?_
        refine pz_add (by decide +kernel) rfl kz_5 (by omega) (by omega) (fun z91 hz91 => ?_)
        refine pz_ialdX (n := xs.length) (by decide +kernel) (show pg_X xs 0 = some (0, xs, 0) from rfl) rfl hz91 (by omega) (by omega) (fun v92 ev92 => ?_)
        clear hz91
        refine pz_if_eq (off := 7) (t := 1363) (by decide +kernel) (by decide) rfl rfl (fun h93 => ?_) (fun h93 => ?_)
        · skip
          refine pe_iconstv (n := 0) (v := 0) (by decide +kernel) (by decide +kernel) ?_
          show pmE pg (pg_X xs) pg_tyl pg_cl 41 318 1364 [.retAddr 0, .ref 0, .ref 147, .int x3] [.int 0, .int 0, .int v87, .int v85, .int v83, .ref 147] (md (cc f79 A80 R81) g B) _
          refine pz_callV (j := 110) (mj := 286) (by decide +kernel) (cll_V (args := [.int 0, .int 0, .int v87, .int v85, .int v83]) (n := 5) (by decide +kernel) rfl rfl (md_o cc_len) (by decide +kernel) (Nat.le_of_ble_eq_true rfl) (Nat.le_of_ble_eq_true rfl)) (NM_286 cc_len hM) (fun q94a q94b q94c q94d hqq94 => ?_)
          obtain ⟨g95, B96, rq94, eq94, hIq94, hGq94, hFq94, kq94⟩ := hqq94
          cases eq94
          refine ⟨rfl, rfl, ?_⟩
          show pmE pg (pg_X xs) pg_tyl pg_cl 41 318 1367 [.retAddr 0, .ref 0, .ref 147, .int x3] [.int rq94] (cd f79 A80 R81 (em g95 B96)) _
          refine pe_pop (by decide +kernel) rfl ?_
          refine pe_goto (off := 1109) (t := 2477) (by decide +kernel) (by decide) rfl ?_
          exact kk _ _ _ _ _ ⟨hIq78, hIq94, (RL5_t (hGq94 31 (by decide) (by decide) (by decide)) (hGq94 32 (by decide) (by decide) (by decide)) (RL4_fr hIq78 hIq94 (fun n hn => hGq78 n (tn hn (by decide)) (tn hn (by decide)) (tn hn (by decide))) (fun n hn => hFq78 n (tn hn (by decide)) (tn hn (by decide)) (tn hn (by decide)) (tn hn (by decide)) (tn hn (by decide)) (tn hn (by decide)) (tn hn (by decide)) (tn hn (by decide)) (tn hn (by decide)) (tn hn (by decide))) (hFq94 148 (by decide) (by decide) (by decide) (by decide) (by decide) (by decide) (by decide)) (hFq94 149 (by decide) (by decide) (by decide) (by decide) (by decide) (by decide) (by decide)) hR.1) hR)⟩
        · skip
          refine pe_iconstv (n := 1) (v := 1) (by decide +kernel) (by decide +kernel) ?_
          refine pe_goto (off := 4) (t := 1364) (by decide +kernel) (by decide) rfl ?_
          show pmE pg (pg_X xs) pg_tyl pg_cl 41 318 1364 [.retAddr 0, .ref 0, .ref 147, .int x3] [.int 1, .int 0, .int v87, .int v85, .int v83, .ref 147] (md (cc f79 A80 R81) g B) _
          refine pz_callV (j := 110) (mj := 286) (by decide +kernel) (cll_V (args := [.int 1, .int 0, .int v87, .int v85, .int v83]) (n := 5) (by decide +kernel) rfl rfl (md_o cc_len) (by decide +kernel) (Nat.le_of_ble_eq_true rfl) (Nat.le_of_ble_eq_true rfl)) (NM_286 cc_len hM) (fun q97a q97b q97c q97d hqq97 => ?_)
          obtain ⟨g98, B99, rq97, eq97, hIq97, hGq97, hFq97, kq97⟩ := hqq97
          cases eq97
          refine ⟨rfl, rfl, ?_⟩
          show pmE pg (pg_X xs) pg_tyl pg_cl 41 318 1367 [.retAddr 0, .ref 0, .ref 147, .int x3] [.int rq97] (cd f79 A80 R81 (em g98 B99)) _
          refine pe_pop (by decide +kernel) rfl ?_
          refine pe_goto (off := 1109) (t := 2477) (by decide +kernel) (by decide) rfl ?_
          exact kk _ _ _ _ _ ⟨hIq78, hIq97, (RL5_t (hGq97 31 (by decide) (by decide) (by decide)) (hGq97 32 (by decide) (by decide) (by decide)) (RL4_fr hIq78 hIq97 (fun n hn => hGq78 n (tn hn (by decide)) (tn hn (by decide)) (tn hn (by decide))) (fun n hn => hFq78 n (tn hn (by decide)) (tn hn (by decide)) (tn hn (by decide)) (tn hn (by decide)) (tn hn (by decide)) (tn hn (by decide)) (tn hn (by decide)) (tn hn (by decide)) (tn hn (by decide)) (tn hn (by decide))) (hFq97 148 (by decide) (by decide) (by decide) (by decide) (by decide) (by decide) (by decide)) (hFq97 149 (by decide) (by decide) (by decide) (by decide) (by decide) (by decide) (by decide)) hR.1) hR)⟩
      · skip
        refine pe_iconstv (n := 1) (v := 1) (by decide +kernel) (by decide +kernel) ?_
        refine pe_goto (off := 4) (t := 1351) (by decide +kernel) (by decide) rfl ?_
        refine pe_aloadX_n (j := 0) (by decide +kernel) rfl ?_
        refine pe_iload_n (j := 3) (by decide +kernel) rfl ?_
        refine pe_iconstv (n := 5) (v := 5) (by decide +kernel) (by decide +kernel) ?_
        refine pz_add (by decide +kernel) rfl kz_5 (by omega) (by omega) (fun z100 hz100 => ?_)
        refine pz_ialdX (n := xs.length) (by decide +kernel) (show pg_X xs 0 = some (0, xs, 0) from rfl) rfl hz100 (by omega) (by omega) (fun v101 ev101 => ?_)
        clear hz100
        refine pz_if_eq (off := 7) (t := 1363) (by decide +kernel) (by decide) rfl rfl (fun h102 => ?_) (fun h102 => ?_)
        · skip
          refine pe_iconstv (n := 0) (v := 0) (by decide +kernel) (by decide +kernel) ?_
          show pmE pg (pg_X xs) pg_tyl pg_cl 41 318 1364 [.retAddr 0, .ref 0, .ref 147, .int x3] [.int 0, .int 1, .int v87, .int v85, .int v83, .ref 147] (md (cc f79 A80 R81) g B) _
          refine pz_callV (j := 110) (mj := 286) (by decide +kernel) (cll_V (args := [.int 0, .int 1, .int v87, .int v85, .int v83]) (n := 5) (by decide +kernel) rfl rfl (md_o cc_len) (by decide +kernel) (Nat.le_of_ble_eq_true rfl) (Nat.le_of_ble_eq_true rfl)) (NM_286 cc_len hM) (fun q103a q103b q103c q103d hqq103 => ?_)
          obtain ⟨g104, B105, rq103, eq103, hIq103, hGq103, hFq103, kq103⟩ := hqq103
          cases eq103
          refine ⟨rfl, rfl, ?_⟩
          show pmE pg (pg_X xs) pg_tyl pg_cl 41 318 1367 [.retAddr 0, .ref 0, .ref 147, .int x3] [.int rq103] (cd f79 A80 R81 (em g104 B105)) _
          refine pe_pop (by decide +kernel) rfl ?_
          refine pe_goto (off := 1109) (t := 2477) (by decide +kernel) (by decide) rfl ?_
          exact kk _ _ _ _ _ ⟨hIq78, hIq103, (RL5_t (hGq103 31 (by decide) (by decide) (by decide)) (hGq103 32 (by decide) (by decide) (by decide)) (RL4_fr hIq78 hIq103 (fun n hn => hGq78 n (tn hn (by decide)) (tn hn (by decide)) (tn hn (by decide))) (fun n hn => hFq78 n (tn hn (by decide)) (tn hn (by decide)) (tn hn (by decide)) (tn hn (by decide)) (tn hn (by decide)) (tn hn (by decide)) (tn hn (by decide)) (tn hn (by decide)) (tn hn (by decide)) (tn hn (by decide))) (hFq103 148 (by decide) (by decide) (by decide) (by decide) (by decide) (by decide) (by decide)) (hFq103 149 (by decide) (by decide) (by decide) (by decide) (by decide) (by decide) (by decide)) hR.1) hR)⟩
        · skip
          refine pe_iconstv (n := 1) (v := 1) (by decide +kernel) (by decide +kernel) ?_
          refine pe_goto (off := 4) (t := 1364) (by decide +kernel) (by decide) rfl ?_
          show pmE pg (pg_X xs) pg_tyl pg_cl 41 318 1364 [.retAddr 0, .ref 0, .ref 147, .int x3] [.int 1, .int 1, .int v87, .int v85, .int v83, .ref 147] (md (cc f79 A80 R81) g B) _
          refine pz_callV (j := 110) (mj := 286) (by decide +kernel) (cll_V (args := [.int 1, .int 1, .int v87, .int v85, .int v83]) (n := 5) (by decide +kernel) rfl rfl (md_o cc_len) (by decide +kernel) (Nat.le_of_ble_eq_true rfl) (Nat.le_of_ble_eq_true rfl)) (NM_286 cc_len hM) (fun q106a q106b q106c q106d hqq106 => ?_)
          obtain ⟨g107, B108, rq106, eq106, hIq106, hGq106, hFq106, kq106⟩ := hqq106
          cases eq106
          refine ⟨rfl, rfl, ?_⟩
          show pmE pg (pg_X xs) pg_tyl pg_cl 41 318 1367 [.retAddr 0, .ref 0, .ref 147, .int x3] [.int rq106] (cd f79 A80 R81 (em g107 B108)) _
          refine pe_pop (by decide +kernel) rfl ?_
          refine pe_goto (off := 1109) (t := 2477) (by decide +kernel) (by decide) rfl ?_
          exact kk _ _ _ _ _ ⟨hIq78, hIq106, (RL5_t (hGq106 31 (by decide) (by decide) (by decide)) (hGq106 32 (by decide) (by decide) (by decide)) (RL4_fr hIq78 hIq106 (fun n hn => hGq78 n (tn hn (by decide)) (tn hn (by decide)) (tn hn (by decide))) (fun n hn => hFq78 n (tn hn (by decide)) (tn hn (by decide)) (tn hn (by decide)) (tn hn (by decide)) (tn hn (by decide)) (tn hn (by decide)) (tn hn (by decide)) (tn hn (by decide)) (tn hn (by decide)) (tn hn (by decide))) (hFq106 148 (by decide) (by decide) (by decide) (by decide) (by decide) (by decide) (by decide)) (hFq106 149 (by decide) (by decide) (by decide) (by decide) (by decide) (by decide) (by decide)) hR.1) hR)⟩
    · skip
      refine pe_iconstv (n := 1) (v := 1) (by decide +kernel) (by decide +kernel) ?_
      refine pe_goto (off := 4) (t := 1318) (by decide +kernel) (by decide) rfl ?_
      refine pz_callV (j := 106) (mj := 172) (by decide +kernel) (cll_V (args := [.int 1, .int 1, .int v6, .int v4, .int v2]) (n := 5) (by decide +kernel) rfl rfl cd_o0 (by decide +kernel) (Nat.le_of_ble_eq_true rfl) (Nat.le_of_ble_eq_true rfl)) (CM_172 st_XO hC) (fun q109a q109b q109c q109d hqq109 => ?_)
      obtain ⟨f110, A111, R112, rq109, eq109, hIq109, hGq109, hFq109, hHq109, kq109⟩ := hqq109
      cases eq109
      refine ⟨rfl, rfl, ?_⟩
      show pmE pg (pg_X xs) pg_tyl pg_cl 41 318 1321 [.retAddr 0, .ref 0, .ref 147, .int x3] [.int rq109] (cd f110 A111 R112 (em g B)) _
      refine pe_pop (by decide +kernel) rfl ?_
      refine pe_aload_n (j := 2) (by decide +kernel) rfl ?_
      refine pe_aloadX_n (j := 0) (by decide +kernel) rfl ?_
      refine pe_iload_n (j := 3) (by decide +kernel) rfl ?_
      refine pe_iconstv (n := 1) (v := 1) (by decide +kernel) (by decide +kernel) ?_
      refine pz_add (by decide +kernel) rfl kz_1 (by omega) (by omega) (fun z113 hz113 => ?_)
      refine pz_ialdX (n := xs.length) (by decide +kernel) (show pg_X xs 0 = some (0, xs, 0) from rfl) rfl hz113 (by omega) (by omega) (fun v114 ev114 => ?_)
      clear hz113
      refine pe_aloadX_n (j := 0) (by decide +kernel) rfl ?_
      refine pe_iload_n (j := 3) (by decide +kernel) rfl ?_
      refine pe_iconstv (n := 2) (v := 2) (by decide +kernel) (by decide +kernel) ?_
      refine pz_add (by decide +kernel) rfl kz_2 (by omega) (by omega) (fun z115 hz115 => ?_)
      refine pz_ialdX (n := xs.length) (by decide +kernel) (show pg_X xs 0 = some (0, xs, 0) from rfl) rfl hz115 (by omega) (by omega) (fun v116 ev116 => ?_)
      clear hz115
      refine pe_aloadX_n (j := 0) (by decide +kernel) rfl ?_
      refine pe_iload_n (j := 3) (by decide +kernel) rfl ?_
      refine pe_iconstv (n := 3) (v := 3) (by decide +kernel) (by decide +kernel) ?_
      refine pz_add (by decide +kernel) rfl kz_3 (by omega) (by omega) (fun z117 hz117 => ?_)
      refine pz_ialdX (n := xs.length) (by decide +kernel) (show pg_X xs 0 = some (0, xs, 0) from rfl) rfl hz117 (by omega) (by omega) (fun v118 ev118 => ?_)
      clear hz117
      refine pe_aloadX_n (j := 0) (by decide +kernel) rfl ?_
      refine pe_iload_n (j := 3) (by decide +kernel) rfl ?_
      refine pe_iconstv (n := 4) (v := 4) (by decide +kernel) (by decide +kernel) ?_
      refine pz_add (by decide +kernel) rfl kz_4 (by omega) (by omega) (fun z119 hz119 => ?_)
      refine pz_ialdX (n := xs.length) (by decide +kernel) (show pg_X xs 0 = some (0, xs, 0) from rfl) rfl hz119 (by omega) (by omega) (fun v120 ev120 => ?_)
      clear hz119
      refine pz_if_eq (off := 7) (t := 1350) (by decide +kernel) (by decide) rfl rfl (fun h121 => ?_) (fun h121 => ?_)
      · skip
        refine pe_iconstv (n := 0) (v := 0) (by decide +kernel) (by decide +kernel) ?_
        refine pe_aloadX_n (j := 0) (by decide +kernel) rfl ?_
        refine pe_iload_n (j := 3) (by decide +kernel) rfl ?_
        refine pe_iconstv (n := 5) (v := 5) (by decide +kernel) (by decide +kernel) ?_
        refine pz_add (by decide +kernel) rfl kz_5 (by omega) (by omega) (fun z122 hz122 => ?_)
        refine pz_ialdX (n := xs.length) (by decide +kernel) (show pg_X xs 0 = some (0, xs, 0) from rfl) rfl hz122 (by omega) (by omega) (fun v123 ev123 => ?_)
        clear hz122
        refine pz_if_eq (off := 7) (t := 1363) (by decide +kernel) (by decide) rfl rfl (fun h124 => ?_) (fun h124 => ?_)
        · skip
          refine pe_iconstv (n := 0) (v := 0) (by decide +kernel) (by decide +kernel) ?_
          show pmE pg (pg_X xs) pg_tyl pg_cl 41 318 1364 [.retAddr 0, .ref 0, .ref 147, .int x3] [.int 0, .int 0, .int v118, .int v116, .int v114, .ref 147] (md (cc f110 A111 R112) g B) _
          refine pz_callV (j := 110) (mj := 286) (by decide +kernel) (cll_V (args := [.int 0, .int 0, .int v118, .int v116, .int v114]) (n := 5) (by decide +kernel) rfl rfl (md_o cc_len) (by decide +kernel) (Nat.le_of_ble_eq_true rfl) (Nat.le_of_ble_eq_true rfl)) (NM_286 cc_len hM) (fun q125a q125b q125c q125d hqq125 => ?_)
          obtain ⟨g126, B127, rq125, eq125, hIq125, hGq125, hFq125, kq125⟩ := hqq125
          cases eq125
          refine ⟨rfl, rfl, ?_⟩
          show pmE pg (pg_X xs) pg_tyl pg_cl 41 318 1367 [.retAddr 0, .ref 0, .ref 147, .int x3] [.int rq125] (cd f110 A111 R112 (em g126 B127)) _
          refine pe_pop (by decide +kernel) rfl ?_
          refine pe_goto (off := 1109) (t := 2477) (by decide +kernel) (by decide) rfl ?_
          exact kk _ _ _ _ _ ⟨hIq109, hIq125, (RL5_t (hGq125 31 (by decide) (by decide) (by decide)) (hGq125 32 (by decide) (by decide) (by decide)) (RL4_fr hIq109 hIq125 (fun n hn => hGq109 n (tn hn (by decide)) (tn hn (by decide)) (tn hn (by decide))) (fun n hn => hFq109 n (tn hn (by decide)) (tn hn (by decide)) (tn hn (by decide)) (tn hn (by decide)) (tn hn (by decide)) (tn hn (by decide)) (tn hn (by decide)) (tn hn (by decide)) (tn hn (by decide)) (tn hn (by decide))) (hFq125 148 (by decide) (by decide) (by decide) (by decide) (by decide) (by decide) (by decide)) (hFq125 149 (by decide) (by decide) (by decide) (by decide) (by decide) (by decide) (by decide)) hR.1) hR)⟩
        · skip
          refine pe_iconstv (n := 1) (v := 1) (by decide +kernel) (by decide +kernel) ?_
          refine pe_goto (off := 4) (t := 1364) (by decide +kernel) (by decide) rfl ?_
          show pmE pg (pg_X xs) pg_tyl pg_cl 41 318 1364 [.retAddr 0, .ref 0, .ref 147, .int x3] [.int 1, .int 0, .int v118, .int v116, .int v114, .ref 147] (md (cc f110 A111 R112) g B) _
          refine pz_callV (j := 110) (mj := 286) (by decide +kernel) (cll_V (args := [.int 1, .int 0, .int v118, .int v116, .int v114]) (n := 5) (by decide +kernel) rfl rfl (md_o cc_len) (by decide +kernel) (Nat.le_of_ble_eq_true rfl) (Nat.le_of_ble_eq_true rfl)) (NM_286 cc_len hM) (fun q128a q128b q128c q128d hqq128 => ?_)
          obtain ⟨g129, B130, rq128, eq128, hIq128, hGq128, hFq128, kq128⟩ := hqq128
          cases eq128
          refine ⟨rfl, rfl, ?_⟩
          show pmE pg (pg_X xs) pg_tyl pg_cl 41 318 1367 [.retAddr 0, .ref 0, .ref 147, .int x3] [.int rq128] (cd f110 A111 R112 (em g129 B130)) _
          refine pe_pop (by decide +kernel) rfl ?_
          refine pe_goto (off := 1109) (t := 2477) (by decide +kernel) (by decide) rfl ?_
          exact kk _ _ _ _ _ ⟨hIq109, hIq128, (RL5_t (hGq128 31 (by decide) (by decide) (by decide)) (hGq128 32 (by decide) (by decide) (by decide)) (RL4_fr hIq109 hIq128 (fun n hn => hGq109 n (tn hn (by decide)) (tn hn (by decide)) (tn hn (by decide))) (fun n hn => hFq109 n (tn hn (by decide)) (tn hn (by decide)) (tn hn (by decide)) (tn hn (by decide)) (tn hn (by decide)) (tn hn (by decide)) (tn hn (by decide)) (tn hn (by decide)) (tn hn (by decide)) (tn hn (by decide))) (hFq128 148 (by decide) (by decide) (by decide) (by decide) (by decide) (by decide) (by decide)) (hFq128 149 (by decide) (by decide) (by decide) (by decide) (by decide) (by decide) (by decide)) hR.1) hR)⟩
      · skip
        refine pe_iconstv (n := 1) (v := 1) (by decide +kernel) (by decide +kernel) ?_
        refine pe_goto (off := 4) (t := 1351) (by decide +kernel) (by decide) rfl ?_
        refine pe_aloadX_n (j := 0) (by decide +kernel) rfl ?_
        refine pe_iload_n (j := 3) (by decide +kernel) rfl ?_
        refine pe_iconstv (n := 5) (v := 5) (by decide +kernel) (by decide +kernel) ?_
        refine pz_add (by decide +kernel) rfl kz_5 (by omega) (by omega) (fun z131 hz131 => ?_)
        refine pz_ialdX (n := xs.length) (by decide +kernel) (show pg_X xs 0 = some (0, xs, 0) from rfl) rfl hz131 (by omega) (by omega) (fun v132 ev132 => ?_)
        clear hz131
        refine pz_if_eq (off := 7) (t := 1363) (by decide +kernel) (by decide) rfl rfl (fun h133 => ?_) (fun h133 => ?_)
        · skip
          refine pe_iconstv (n := 0) (v := 0) (by decide +kernel) (by decide +kernel) ?_
          show pmE pg (pg_X xs) pg_tyl pg_cl 41 318 1364 [.retAddr 0, .ref 0, .ref 147, .int x3] [.int 0, .int 1, .int v118, .int v116, .int v114, .ref 147] (md (cc f110 A111 R112) g B) _
          refine pz_callV (j := 110) (mj := 286) (by decide +kernel) (cll_V (args := [.int 0, .int 1, .int v118, .int v116, .int v114]) (n := 5) (by decide +kernel) rfl rfl (md_o cc_len) (by decide +kernel) (Nat.le_of_ble_eq_true rfl) (Nat.le_of_ble_eq_true rfl)) (NM_286 cc_len hM) (fun q134a q134b q134c q134d hqq134 => ?_)
          obtain ⟨g135, B136, rq134, eq134, hIq134, hGq134, hFq134, kq134⟩ := hqq134
          cases eq134
          refine ⟨rfl, rfl, ?_⟩
          show pmE pg (pg_X xs) pg_tyl pg_cl 41 318 1367 [.retAddr 0, .ref 0, .ref 147, .int x3] [.int rq134] (cd f110 A111 R112 (em g135 B136)) _
          refine pe_pop (by decide +kernel) rfl ?_
          refine pe_goto (off := 1109) (t := 2477) (by decide +kernel) (by decide) rfl ?_
          exact kk _ _ _ _ _ ⟨hIq109, hIq134, (RL5_t (hGq134 31 (by decide) (by decide) (by decide)) (hGq134 32 (by decide) (by decide) (by decide)) (RL4_fr hIq109 hIq134 (fun n hn => hGq109 n (tn hn (by decide)) (tn hn (by decide)) (tn hn (by decide))) (fun n hn => hFq109 n (tn hn (by decide)) (tn hn (by decide)) (tn hn (by decide)) (tn hn (by decide)) (tn hn (by decide)) (tn hn (by decide)) (tn hn (by decide)) (tn hn (by decide)) (tn hn (by decide)) (tn hn (by decide))) (hFq134 148 (by decide) (by decide) (by decide) (by decide) (by decide) (by decide) (by decide)) (hFq134 149 (by decide) (by decide) (by decide) (by decide) (by decide) (by decide) (by decide)) hR.1) hR)⟩
        · skip
          refine pe_iconstv (n := 1) (v := 1) (by decide +kernel) (by decide +kernel) ?_
          refine pe_goto (off := 4) (t := 1364) (by decide +kernel) (by decide) rfl ?_
          show pmE pg (pg_X xs) pg_tyl pg_cl 41 318 1364 [.retAddr 0, .ref 0, .ref 147, .int x3] [.int 1, .int 1, .int v118, .int v116, .int v114, .ref 147] (md (cc f110 A111 R112) g B) _
          refine pz_callV (j := 110) (mj := 286) (by decide +kernel) (cll_V (args := [.int 1, .int 1, .int v118, .int v116, .int v114]) (n := 5) (by decide +kernel) rfl rfl (md_o cc_len) (by decide +kernel) (Nat.le_of_ble_eq_true rfl) (Nat.le_of_ble_eq_true rfl)) (NM_286 cc_len hM) (fun q137a q137b q137c q137d hqq137 => ?_)
          obtain ⟨g138, B139, rq137, eq137, hIq137, hGq137, hFq137, kq137⟩ := hqq137
          cases eq137
          refine ⟨rfl, rfl, ?_⟩
          show pmE pg (pg_X xs) pg_tyl pg_cl 41 318 1367 [.retAddr 0, .ref 0, .ref 147, .int x3] [.int rq137] (cd f110 A111 R112 (em g138 B139)) _
          refine pe_pop (by decide +kernel) rfl ?_
          refine pe_goto (off := 1109) (t := 2477) (by decide +kernel) (by decide) rfl ?_
          exact kk _ _ _ _ _ ⟨hIq109, hIq137, (RL5_t (hGq137 31 (by decide) (by decide) (by decide)) (hGq137 32 (by decide) (by decide) (by decide)) (RL4_fr hIq109 hIq137 (fun n hn => hGq109 n (tn hn (by decide)) (tn hn (by decide)) (tn hn (by decide))) (fun n hn => hFq109 n (tn hn (by decide)) (tn hn (by decide)) (tn hn (by decide)) (tn hn (by decide)) (tn hn (by decide)) (tn hn (by decide)) (tn hn (by decide)) (tn hn (by decide)) (tn hn (by decide)) (tn hn (by decide))) (hFq137 148 (by decide) (by decide) (by decide) (by decide) (by decide) (by decide) (by decide)) (hFq137 149 (by decide) (by decide) (by decide) (by decide) (by decide) (by decide) (by decide)) hR.1) hR)⟩
set_option maxRecDepth 100000 in
set_option maxHeartbeats 8000000 in
theorem LC_22 {xs : List Int32} {Q : pm_R → Prop} {f : Nat → Int32} {A : Nat → List Int32} {R : Nat → Value} {g : Nat → Int32} {B : Nat → List Int32} {x3 : Int32} (h3 : 0 ≤ x3.toInt) (h4 : x3.toInt + 7 ≤ xs.length) (hl : xs.length ≤ 3584) (hS : ST f A R g B) (kk : ∀ (f' : Nat → Int32) (A' : Nat → List Int32) (R' : Nat → Value) (g' : Nat → Int32) (B' : Nat → List Int32), ST f' A' R' g' B' → pmE pg (pg_X xs) pg_tyl pg_cl 41 318 2477 [.retAddr 0, .ref 0, .ref 147, .int x3] [] (cd f' A' R' (em g' B')) Q) : pmE pg (pg_X xs) pg_tyl pg_cl 41 318 1371 [.retAddr 0, .ref 0, .ref 147, .int x3] [] (cd f A R (em g B)) Q := by
  obtain ⟨hC, hM, hR⟩ := hS
  refine pe_aload_n (j := 1) (by decide +kernel) rfl ?_
  refine pe_aloadX_n (j := 0) (by decide +kernel) rfl ?_
  refine pe_iload_n (j := 3) (by decide +kernel) rfl ?_
  refine pe_iconstv (n := 1) (v := 1) (by decide +kernel) (by decide +kernel) ?_
  refine pz_add (by decide +kernel) rfl kz_1 (by omega) (by omega) (fun z1 hz1 => ?_)
  refine pz_ialdX (n := xs.length) (by decide +kernel) (show pg_X xs 0 = some (0, xs, 0) from rfl) rfl hz1 (by omega) (by omega) (fun v2 ev2 => ?_)
  clear hz1
  refine pe_aloadX_n (j := 0) (by decide +kernel) rfl ?_
  refine pe_iload_n (j := 3) (by decide +kernel) rfl ?_
  refine pe_iconstv (n := 2) (v := 2) (by decide +kernel) (by decide +kernel) ?_
  refine pz_add (by decide +kernel) rfl kz_2 (by omega) (by omega) (fun z3 hz3 => ?_)
  refine pz_ialdX (n := xs.length) (by decide +kernel) (show pg_X xs 0 = some (0, xs, 0) from rfl) rfl hz3 (by omega) (by omega) (fun v4 ev4 => ?_)
  clear hz3
  refine pe_aloadX_n (j := 0) (by decide +kernel) rfl ?_
  refine pe_iload_n (j := 3) (by decide +kernel) rfl ?_
  refine pe_iconstv (n := 3) (v := 3) (by decide +kernel) (by decide +kernel) ?_
  refine pz_add (by decide +kernel) rfl kz_3 (by omega) (by omega) (fun z5 hz5 => ?_)
  refine pz_ialdX (n := xs.length) (by decide +kernel) (show pg_X xs 0 = some (0, xs, 0) from rfl) rfl hz5 (by omega) (by omega) (fun v6 ev6 => ?_)
  clear hz5
  refine pz_callV (j := 111) (mj := 177) (by decide +kernel) (cll_V (args := [.int v6, .int v4, .int v2]) (n := 3) (by decide +kernel) rfl rfl cd_o0 (by decide +kernel) (Nat.le_of_ble_eq_true rfl) (Nat.le_of_ble_eq_true rfl)) (CM_177 st_XO hC) (fun q7a q7b q7c q7d hqq7 => ?_)
  obtain ⟨f8, A9, R10, rq7, eq7, hIq7, hGq7, hFq7, hHq7, kq7⟩ := hqq7
  cases eq7
  refine ⟨rfl, rfl, ?_⟩
  show pmE pg (pg_X xs) pg_tyl pg_cl 41 318 1390 [.retAddr 0, .ref 0, .ref 147, .int x3] [.int rq7] (cd f8 A9 R10 (em g B)) _
  refine pe_pop (by decide +kernel) rfl ?_
  refine pe_aload_n (j := 2) (by decide +kernel) rfl ?_
  refine pe_aloadX_n (j := 0) (by decide +kernel) rfl ?_
  refine pe_iload_n (j := 3) (by decide +kernel) rfl ?_
  refine pe_iconstv (n := 1) (v := 1) (by decide +kernel) (by decide +kernel) ?_
  refine pz_add (by decide +kernel) rfl kz_1 (by omega) (by omega) (fun z11 hz11 => ?_)
  refine pz_ialdX (n := xs.length) (by decide +kernel) (show pg_X xs 0 = some (0, xs, 0) from rfl) rfl hz11 (by omega) (by omega) (fun v12 ev12 => ?_)
  clear hz11
  refine pe_aloadX_n (j := 0) (by decide +kernel) rfl ?_
  refine pe_iload_n (j := 3) (by decide +kernel) rfl ?_
  refine pe_iconstv (n := 2) (v := 2) (by decide +kernel) (by decide +kernel) ?_
  refine pz_add (by decide +kernel) rfl kz_2 (by omega) (by omega) (fun z13 hz13 => ?_)
  refine pz_ialdX (n := xs.length) (by decide +kernel) (show pg_X xs 0 = some (0, xs, 0) from rfl) rfl hz13 (by omega) (by omega) (fun v14 ev14 => ?_)
  clear hz13
  refine pe_aloadX_n (j := 0) (by decide +kernel) rfl ?_
  refine pe_iload_n (j := 3) (by decide +kernel) rfl ?_
  refine pe_iconstv (n := 3) (v := 3) (by decide +kernel) (by decide +kernel) ?_
  refine pz_add (by decide +kernel) rfl kz_3 (by omega) (by omega) (fun z15 hz15 => ?_)
  refine pz_ialdX (n := xs.length) (by decide +kernel) (show pg_X xs 0 = some (0, xs, 0) from rfl) rfl hz15 (by omega) (by omega) (fun v16 ev16 => ?_)
  clear hz15
  show pmE pg (pg_X xs) pg_tyl pg_cl 41 318 1407 [.retAddr 0, .ref 0, .ref 147, .int x3] [.int v16, .int v14, .int v12, .ref 147] (md (cc f8 A9 R10) g B) _
  refine pz_callV (j := 114) (mj := 290) (by decide +kernel) (cll_V (args := [.int v16, .int v14, .int v12]) (n := 3) (by decide +kernel) rfl rfl (md_o cc_len) (by decide +kernel) (Nat.le_of_ble_eq_true rfl) (Nat.le_of_ble_eq_true rfl)) (NM_290 cc_len hM) (fun q17a q17b q17c q17d hqq17 => ?_)
  obtain ⟨g18, B19, rq17, eq17, hIq17, hGq17, hFq17, kq17⟩ := hqq17
  cases eq17
  refine ⟨rfl, rfl, ?_⟩
  show pmE pg (pg_X xs) pg_tyl pg_cl 41 318 1410 [.retAddr 0, .ref 0, .ref 147, .int x3] [.int rq17] (cd f8 A9 R10 (em g18 B19)) _
  refine pe_pop (by decide +kernel) rfl ?_
  refine pe_goto (off := 1066) (t := 2477) (by decide +kernel) (by decide) rfl ?_
  exact kk _ _ _ _ _ ⟨hIq7, hIq17, (RL5_t (hGq17 31 (by decide) (by decide) (by decide)) (hGq17 32 (by decide) (by decide) (by decide)) (RL4_fr hIq7 hIq17 (fun n hn => hGq7 n (tn hn (by decide)) (tn hn (by decide)) (tn hn (by decide))) (fun n hn => hFq7 n (tn hn (by decide)) (tn hn (by decide)) (tn hn (by decide)) (tn hn (by decide)) (tn hn (by decide)) (tn hn (by decide)) (tn hn (by decide)) (tn hn (by decide)) (tn hn (by decide)) (tn hn (by decide))) (hFq17 148 (by decide) (by decide) (by decide) (by decide) (by decide) (by decide) (by decide)) (hFq17 149 (by decide) (by decide) (by decide) (by decide) (by decide) (by decide) (by decide)) hR.1) hR)⟩
end
section
set_option maxRecDepth 100000 in
set_option maxHeartbeats 8000000 in
theorem LC_23 {xs : List Int32} {Q : pm_R → Prop} {f : Nat → Int32} {A : Nat → List Int32} {R : Nat → Value} {g : Nat → Int32} {B : Nat → List Int32} {x3 : Int32} (h3 : 0 ≤ x3.toInt) (h4 : x3.toInt + 7 ≤ xs.length) (hl : xs.length ≤ 3584) (hS : ST f A R g B) (kk : ∀ (f' : Nat → Int32) (A' : Nat → List Int32) (R' : Nat → Value) (g' : Nat → Int32) (B' : Nat → List Int32), ST f' A' R' g' B' → pmE pg (pg_X xs) pg_tyl pg_cl 41 318 2477 [.retAddr 0, .ref 0, .ref 147, .int x3] [] (cd f' A' R' (em g' B')) Q) : pmE pg (pg_X xs) pg_tyl pg_cl 41 318 1414 [.retAddr 0, .ref 0, .ref 147, .int x3] [] (cd f A R (em g B)) Q := by
  obtain ⟨hC, hM, hR⟩ := hS
  refine pe_aload_n (j := 1) (by decide +kernel) rfl ?_
  refine pe_aloadX_n (j := 0) (by decide +kernel) rfl ?_
  refine pe_iload_n (j := 3) (by decide +kernel) rfl ?_
  refine pe_iconstv (n := 1) (v := 1) (by decide +kernel) (by decide +kernel) ?_
  refine pz_add (by decide +kernel) rfl kz_1 (by omega) (by omega) (fun z1 hz1 => ?_)
  refine pz_ialdX (n := xs.length) (by decide +kernel) (show pg_X xs 0 = some (0, xs, 0) from rfl) rfl hz1 (by omega) (by omega) (fun v2 ev2 => ?_)
  clear hz1
  refine pe_aloadX_n (j := 0) (by decide +kernel) rfl ?_
  refine pe_iload_n (j := 3) (by decide +kernel) rfl ?_
  refine pe_iconstv (n := 2) (v := 2) (by decide +kernel) (by decide +kernel) ?_
  refine pz_add (by decide +kernel) rfl kz_2 (by omega) (by omega) (fun z3 hz3 => ?_)
  refine pz_ialdX (n := xs.length) (by decide +kernel) (show pg_X xs 0 = some (0, xs, 0) from rfl) rfl hz3 (by omega) (by omega) (fun v4 ev4 => ?_)
  clear hz3
  refine pe_aloadX_n (j := 0) (by decide +kernel) rfl ?_
  refine pe_iload_n (j := 3) (by decide +kernel) rfl ?_
  refine pe_iconstv (n := 3) (v := 3) (by decide +kernel) (by decide +kernel) ?_
  refine pz_add (by decide +kernel) rfl kz_3 (by omega) (by omega) (fun z5 hz5 => ?_)
  refine pz_ialdX (n := xs.length) (by decide +kernel) (show pg_X xs 0 = some (0, xs, 0) from rfl) rfl hz5 (by omega) (by omega) (fun v6 ev6 => ?_)
  clear hz5
  refine pe_aloadX_n (j := 0) (by decide +kernel) rfl ?_
  refine pe_iload_n (j := 3) (by decide +kernel) rfl ?_
  refine pe_iconstv (n := 4) (v := 4) (by decide +kernel) (by decide +kernel) ?_
  refine pz_add (by decide +kernel) rfl kz_4 (by omega) (by omega) (fun z7 hz7 => ?_)
  refine pz_ialdX (n := xs.length) (by decide +kernel) (show pg_X xs 0 = some (0, xs, 0) from rfl) rfl hz7 (by omega) (by omega) (fun v8 ev8 => ?_)
  clear hz7
  refine pz_callV (j := 115) (mj := 179) (by decide +kernel) (cll_V (args := [.int v8, .int v6, .int v4, .int v2]) (n := 4) (by decide +kernel) rfl rfl cd_o0 (by decide +kernel) (Nat.le_of_ble_eq_true rfl) (Nat.le_of_ble_eq_true rfl)) (CM_179 st_XO hC) (fun q9a q9b q9c q9d hqq9 => ?_)
  obtain ⟨f10, A11, R12, rq9, eq9, hIq9, hGq9, hFq9, hHq9, kq9⟩ := hqq9
  cases eq9
  refine ⟨rfl, rfl, ?_⟩
  show pmE pg (pg_X xs) pg_tyl pg_cl 41 318 1438 [.retAddr 0, .ref 0, .ref 147, .int x3] [.int rq9] (cd f10 A11 R12 (em g B)) _
  refine pe_pop (by decide +kernel) rfl ?_
  refine pe_aload_n (j := 2) (by decide +kernel) rfl ?_
  refine pe_aloadX_n (j := 0) (by decide +kernel) rfl ?_
  refine pe_iload_n (j := 3) (by decide +kernel) rfl ?_
  refine pe_iconstv (n := 1) (v := 1) (by decide +kernel) (by decide +kernel) ?_
  refine pz_add (by decide +kernel) rfl kz_1 (by omega) (by omega) (fun z13 hz13 => ?_)
  refine pz_ialdX (n := xs.length) (by decide +kernel) (show pg_X xs 0 = some (0, xs, 0) from rfl) rfl hz13 (by omega) (by omega) (fun v14 ev14 => ?_)
  clear hz13
  refine pe_aloadX_n (j := 0) (by decide +kernel) rfl ?_
  refine pe_iload_n (j := 3) (by decide +kernel) rfl ?_
  refine pe_iconstv (n := 2) (v := 2) (by decide +kernel) (by decide +kernel) ?_
  refine pz_add (by decide +kernel) rfl kz_2 (by omega) (by omega) (fun z15 hz15 => ?_)
  refine pz_ialdX (n := xs.length) (by decide +kernel) (show pg_X xs 0 = some (0, xs, 0) from rfl) rfl hz15 (by omega) (by omega) (fun v16 ev16 => ?_)
  clear hz15
  refine pe_aloadX_n (j := 0) (by decide +kernel) rfl ?_
  refine pe_iload_n (j := 3) (by decide +kernel) rfl ?_
  refine pe_iconstv (n := 3) (v := 3) (by decide +kernel) (by decide +kernel) ?_
  refine pz_add (by decide +kernel) rfl kz_3 (by omega) (by omega) (fun z17 hz17 => ?_)
  refine pz_ialdX (n := xs.length) (by decide +kernel) (show pg_X xs 0 = some (0, xs, 0) from rfl) rfl hz17 (by omega) (by omega) (fun v18 ev18 => ?_)
  clear hz17
  refine pe_aloadX_n (j := 0) (by decide +kernel) rfl ?_
  refine pe_iload_n (j := 3) (by decide +kernel) rfl ?_
  refine pe_iconstv (n := 4) (v := 4) (by decide +kernel) (by decide +kernel) ?_
  refine pz_add (by decide +kernel) rfl kz_4 (by omega) (by omega) (fun z19 hz19 => ?_)
  refine pz_ialdX (n := xs.length) (by decide +kernel) (show pg_X xs 0 = some (0, xs, 0) from rfl) rfl hz19 (by omega) (by omega) (fun v20 ev20 => ?_)
  clear hz19
  show pmE pg (pg_X xs) pg_tyl pg_cl 41 318 1460 [.retAddr 0, .ref 0, .ref 147, .int x3] [.int v20, .int v18, .int v16, .int v14, .ref 147] (md (cc f10 A11 R12) g B) _
  refine pz_callV (j := 118) (mj := 291) (by decide +kernel) (cll_V (args := [.int v20, .int v18, .int v16, .int v14]) (n := 4) (by decide +kernel) rfl rfl (md_o cc_len) (by decide +kernel) (Nat.le_of_ble_eq_true rfl) (Nat.le_of_ble_eq_true rfl)) (NM_291 cc_len hM) (fun q21a q21b q21c q21d hqq21 => ?_)
  obtain ⟨g22, B23, rq21, eq21, hIq21, hGq21, hFq21, kq21⟩ := hqq21
  cases eq21
  refine ⟨rfl, rfl, ?_⟩
  show pmE pg (pg_X xs) pg_tyl pg_cl 41 318 1463 [.retAddr 0, .ref 0, .ref 147, .int x3] [.int rq21] (cd f10 A11 R12 (em g22 B23)) _
  refine pe_pop (by decide +kernel) rfl ?_
  refine pe_goto (off := 1013) (t := 2477) (by decide +kernel) (by decide) rfl ?_
  exact kk _ _ _ _ _ ⟨hIq9, hIq21, (RL5_t (hGq21 31 (by decide) (by decide) (by decide)) (hGq21 32 (by decide) (by decide) (by decide)) (RL4_fr hIq9 hIq21 (fun n hn => hGq9 n (tn hn (by decide)) (tn hn (by decide)) (tn hn (by decide))) (fun n hn => hFq9 n (tn hn (by decide)) (tn hn (by decide)) (tn hn (by decide)) (tn hn (by decide)) (tn hn (by decide)) (tn hn (by decide)) (tn hn (by decide)) (tn hn (by decide)) (tn hn (by decide)) (tn hn (by decide))) (hFq21 148 (by decide) (by decide) (by decide) (by decide) (by decide) (by decide) (by decide)) (hFq21 149 (by decide) (by decide) (by decide) (by decide) (by decide) (by decide) (by decide)) hR.1) hR)⟩
set_option maxRecDepth 100000 in
set_option maxHeartbeats 8000000 in
theorem LC_24 {xs : List Int32} {Q : pm_R → Prop} {f : Nat → Int32} {A : Nat → List Int32} {R : Nat → Value} {g : Nat → Int32} {B : Nat → List Int32} {x3 : Int32} (h3 : 0 ≤ x3.toInt) (h4 : x3.toInt + 7 ≤ xs.length) (hl : xs.length ≤ 3584) (hS : ST f A R g B) (kk : ∀ (f' : Nat → Int32) (A' : Nat → List Int32) (R' : Nat → Value) (g' : Nat → Int32) (B' : Nat → List Int32), ST f' A' R' g' B' → pmE pg (pg_X xs) pg_tyl pg_cl 41 318 2477 [.retAddr 0, .ref 0, .ref 147, .int x3] [] (cd f' A' R' (em g' B')) Q) : pmE pg (pg_X xs) pg_tyl pg_cl 41 318 1467 [.retAddr 0, .ref 0, .ref 147, .int x3] [] (cd f A R (em g B)) Q := by
  obtain ⟨hC, hM, hR⟩ := hS
  refine pe_aload_n (j := 1) (by decide +kernel) rfl ?_
  refine pe_aloadX_n (j := 0) (by decide +kernel) rfl ?_
  refine pe_iload_n (j := 3) (by decide +kernel) rfl ?_
  refine pe_iconstv (n := 1) (v := 1) (by decide +kernel) (by decide +kernel) ?_
  refine pz_add (by decide +kernel) rfl kz_1 (by omega) (by omega) (fun z1 hz1 => ?_)
  refine pz_ialdX (n := xs.length) (by decide +kernel) (show pg_X xs 0 = some (0, xs, 0) from rfl) rfl hz1 (by omega) (by omega) (fun v2 ev2 => ?_)
  clear hz1
  refine pe_aloadX_n (j := 0) (by decide +kernel) rfl ?_
  refine pe_iload_n (j := 3) (by decide +kernel) rfl ?_
  refine pe_iconstv (n := 2) (v := 2) (by decide +kernel) (by decide +kernel) ?_
  refine pz_add (by decide +kernel) rfl kz_2 (by omega) (by omega) (fun z3 hz3 => ?_)
  refine pz_ialdX (n := xs.length) (by decide +kernel) (show pg_X xs 0 = some (0, xs, 0) from rfl) rfl hz3 (by omega) (by omega) (fun v4 ev4 => ?_)
  clear hz3
  refine pe_aloadX_n (j := 0) (by decide +kernel) rfl ?_
  refine pe_iload_n (j := 3) (by decide +kernel) rfl ?_
  refine pe_iconstv (n := 3) (v := 3) (by decide +kernel) (by decide +kernel) ?_
  refine pz_add (by decide +kernel) rfl kz_3 (by omega) (by omega) (fun z5 hz5 => ?_)
  refine pz_ialdX (n := xs.length) (by decide +kernel) (show pg_X xs 0 = some (0, xs, 0) from rfl) rfl hz5 (by omega) (by omega) (fun v6 ev6 => ?_)
  clear hz5
  refine pe_aloadX_n (j := 0) (by decide +kernel) rfl ?_
  refine pe_iload_n (j := 3) (by decide +kernel) rfl ?_
  refine pe_iconstv (n := 4) (v := 4) (by decide +kernel) (by decide +kernel) ?_
  refine pz_add (by decide +kernel) rfl kz_4 (by omega) (by omega) (fun z7 hz7 => ?_)
  refine pz_ialdX (n := xs.length) (by decide +kernel) (show pg_X xs 0 = some (0, xs, 0) from rfl) rfl hz7 (by omega) (by omega) (fun v8 ev8 => ?_)
  clear hz7
  refine pz_callV (j := 119) (mj := 181) (by decide +kernel) (cll_V (args := [.int v8, .int v6, .int v4, .int v2]) (n := 4) (by decide +kernel) rfl rfl cd_o0 (by decide +kernel) (Nat.le_of_ble_eq_true rfl) (Nat.le_of_ble_eq_true rfl)) (CM_181 st_XO hC) (fun q9a q9b q9c q9d hqq9 => ?_)
  obtain ⟨f10, A11, R12, rq9, eq9, hIq9, hGq9, hFq9, hHq9, kq9⟩ := hqq9
  cases eq9
  refine ⟨rfl, rfl, ?_⟩
  show pmE pg (pg_X xs) pg_tyl pg_cl 41 318 1491 [.retAddr 0, .ref 0, .ref 147, .int x3] [.int rq9] (cd f10 A11 R12 (em g B)) _
  refine pe_pop (by decide +kernel) rfl ?_
  refine pe_aload_n (j := 2) (by decide +kernel) rfl ?_
  refine pe_aloadX_n (j := 0) (by decide +kernel) rfl ?_
  refine pe_iload_n (j := 3) (by decide +kernel) rfl ?_
  refine pe_iconstv (n := 1) (v := 1) (by decide +kernel) (by decide +kernel) ?_
  refine pz_add (by decide +kernel) rfl kz_1 (by omega) (by omega) (fun z13 hz13 => ?_)
  refine pz_ialdX (n := xs.length) (by decide +kernel) (show pg_X xs 0 = some (0, xs, 0) from rfl) rfl hz13 (by omega) (by omega) (fun v14 ev14 => ?_)
  clear hz13
  refine pe_aloadX_n (j := 0) (by decide +kernel) rfl ?_
  refine pe_iload_n (j := 3) (by decide +kernel) rfl ?_
  refine pe_iconstv (n := 2) (v := 2) (by decide +kernel) (by decide +kernel) ?_
  refine pz_add (by decide +kernel) rfl kz_2 (by omega) (by omega) (fun z15 hz15 => ?_)
  refine pz_ialdX (n := xs.length) (by decide +kernel) (show pg_X xs 0 = some (0, xs, 0) from rfl) rfl hz15 (by omega) (by omega) (fun v16 ev16 => ?_)
  clear hz15
  refine pe_aloadX_n (j := 0) (by decide +kernel) rfl ?_
  refine pe_iload_n (j := 3) (by decide +kernel) rfl ?_
  refine pe_iconstv (n := 3) (v := 3) (by decide +kernel) (by decide +kernel) ?_
  refine pz_add (by decide +kernel) rfl kz_3 (by omega) (by omega) (fun z17 hz17 => ?_)
  refine pz_ialdX (n := xs.length) (by decide +kernel) (show pg_X xs 0 = some (0, xs, 0) from rfl) rfl hz17 (by omega) (by omega) (fun v18 ev18 => ?_)
  clear hz17
  refine pe_aloadX_n (j := 0) (by decide +kernel) rfl ?_
  refine pe_iload_n (j := 3) (by decide +kernel) rfl ?_
  refine pe_iconstv (n := 4) (v := 4) (by decide +kernel) (by decide +kernel) ?_
  refine pz_add (by decide +kernel) rfl kz_4 (by omega) (by omega) (fun z19 hz19 => ?_)
  refine pz_ialdX (n := xs.length) (by decide +kernel) (show pg_X xs 0 = some (0, xs, 0) from rfl) rfl hz19 (by omega) (by omega) (fun v20 ev20 => ?_)
  clear hz19
  show pmE pg (pg_X xs) pg_tyl pg_cl 41 318 1513 [.retAddr 0, .ref 0, .ref 147, .int x3] [.int v20, .int v18, .int v16, .int v14, .ref 147] (md (cc f10 A11 R12) g B) _
  refine pz_callV (j := 122) (mj := 293) (by decide +kernel) (cll_V (args := [.int v20, .int v18, .int v16, .int v14]) (n := 4) (by decide +kernel) rfl rfl (md_o cc_len) (by decide +kernel) (Nat.le_of_ble_eq_true rfl) (Nat.le_of_ble_eq_true rfl)) (NM_293 cc_len hM) (fun q21a q21b q21c q21d hqq21 => ?_)
  obtain ⟨g22, B23, rq21, eq21, hIq21, hGq21, hFq21, kq21⟩ := hqq21
  cases eq21
  refine ⟨rfl, rfl, ?_⟩
  show pmE pg (pg_X xs) pg_tyl pg_cl 41 318 1516 [.retAddr 0, .ref 0, .ref 147, .int x3] [.int rq21] (cd f10 A11 R12 (em g22 B23)) _
  refine pe_pop (by decide +kernel) rfl ?_
  refine pe_goto (off := 960) (t := 2477) (by decide +kernel) (by decide) rfl ?_
  exact kk _ _ _ _ _ ⟨hIq9, hIq21, (RL5_t (hGq21 31 (by decide) (by decide) (by decide)) (hGq21 32 (by decide) (by decide) (by decide)) (RL4_fr hIq9 hIq21 (fun n hn => hGq9 n (tn hn (by decide)) (tn hn (by decide)) (tn hn (by decide))) (fun n hn => hFq9 n (tn hn (by decide)) (tn hn (by decide)) (tn hn (by decide)) (tn hn (by decide)) (tn hn (by decide)) (tn hn (by decide)) (tn hn (by decide)) (tn hn (by decide)) (tn hn (by decide)) (tn hn (by decide))) (hFq21 148 (by decide) (by decide) (by decide) (by decide) (by decide) (by decide) (by decide) (by decide)) (hFq21 149 (by decide) (by decide) (by decide) (by decide) (by decide) (by decide) (by decide) (by decide)) hR.1) hR)⟩
set_option maxRecDepth 100000 in
set_option maxHeartbeats 8000000 in
theorem LC_25 {xs : List Int32} {Q : pm_R → Prop} {f : Nat → Int32} {A : Nat → List Int32} {R : Nat → Value} {g : Nat → Int32} {B : Nat → List Int32} {x3 : Int32} (h3 : 0 ≤ x3.toInt) (h4 : x3.toInt + 7 ≤ xs.length) (hl : xs.length ≤ 3584) (hS : ST f A R g B) (kk : ∀ (f' : Nat → Int32) (A' : Nat → List Int32) (R' : Nat → Value) (g' : Nat → Int32) (B' : Nat → List Int32), ST f' A' R' g' B' → pmE pg (pg_X xs) pg_tyl pg_cl 41 318 2477 [.retAddr 0, .ref 0, .ref 147, .int x3] [] (cd f' A' R' (em g' B')) Q) : pmE pg (pg_X xs) pg_tyl pg_cl 41 318 1520 [.retAddr 0, .ref 0, .ref 147, .int x3] [] (cd f A R (em g B)) Q := by
  obtain ⟨hC, hM, hR⟩ := hS
  refine pe_aload_n (j := 1) (by decide +kernel) rfl ?_
  refine pe_aloadX_n (j := 0) (by decide +kernel) rfl ?_
  refine pe_iload_n (j := 3) (by decide +kernel) rfl ?_
  refine pe_iconstv (n := 1) (v := 1) (by decide +kernel) (by decide +kernel) ?_
  refine pz_add (by decide +kernel) rfl kz_1 (by omega) (by omega) (fun z1 hz1 => ?_)
  refine pz_ialdX (n := xs.length) (by decide +kernel) (show pg_X xs 0 = some (0, xs, 0) from rfl) rfl hz1 (by omega) (by omega) (fun v2 ev2 => ?_)
  clear hz1
  refine pz_callV (j := 123) (mj := 183) (by decide +kernel) (cll_V (args := [.int v2]) (n := 1) (by decide +kernel) rfl rfl cd_o0 (by decide +kernel) (Nat.le_of_ble_eq_true rfl) (Nat.le_of_ble_eq_true rfl)) (CM_183 st_XO hC) (fun q3a q3b q3c q3d hqq3 => ?_)
  obtain ⟨f4, A5, R6, rq3, eq3, hIq3, hGq3, hFq3, hHq3, kq3⟩ := hqq3
  cases eq3
  refine ⟨rfl, rfl, ?_⟩
  show pmE pg (pg_X xs) pg_tyl pg_cl 41 318 1529 [.retAddr 0, .ref 0, .ref 147, .int x3] [.int rq3] (cd f4 A5 R6 (em g B)) _
  refine pe_pop (by decide +kernel) rfl ?_
  refine pe_aload_n (j := 2) (by decide +kernel) rfl ?_
  refine pe_aloadX_n (j := 0) (by decide +kernel) rfl ?_
  refine pe_iload_n (j := 3) (by decide +kernel) rfl ?_
  refine pe_iconstv (n := 1) (v := 1) (by decide +kernel) (by decide +kernel) ?_
  refine pz_add (by decide +kernel) rfl kz_1 (by omega) (by omega) (fun z7 hz7 => ?_)
  refine pz_ialdX (n := xs.length) (by decide +kernel) (show pg_X xs 0 = some (0, xs, 0) from rfl) rfl hz7 (by omega) (by omega) (fun v8 ev8 => ?_)
  clear hz7
  show pmE pg (pg_X xs) pg_tyl pg_cl 41 318 1536 [.retAddr 0, .ref 0, .ref 147, .int x3] [.int v8, .ref 147] (md (cc f4 A5 R6) g B) _
  refine pz_callV (j := 126) (mj := 292) (by decide +kernel) (cll_V (args := [.int v8]) (n := 1) (by decide +kernel) rfl rfl (md_o cc_len) (by decide +kernel) (Nat.le_of_ble_eq_true rfl) (Nat.le_of_ble_eq_true rfl)) (NM_292 cc_len hM) (fun q9a q9b q9c q9d hqq9 => ?_)
  obtain ⟨g10, B11, rq9, eq9, hIq9, hGq9, hFq9, kq9⟩ := hqq9
  cases eq9
  refine ⟨rfl, rfl, ?_⟩
  show pmE pg (pg_X xs) pg_tyl pg_cl 41 318 1539 [.retAddr 0, .ref 0, .ref 147, .int x3] [.int rq9] (cd f4 A5 R6 (em g10 B11)) _
  refine pe_pop (by decide +kernel) rfl ?_
  refine pe_goto (off := 937) (t := 2477) (by decide +kernel) (by decide) rfl ?_
  exact kk _ _ _ _ _ ⟨hIq3, hIq9, (RL5_t (hGq9 31 (by decide) (by decide)) (hGq9 32 (by decide) (by decide)) (RL4_fr hIq3 hIq9 (fun n hn => hGq3 n (tn hn (by decide))) (fun n hn => hFq3 n (tn hn (by decide)) (tn hn (by decide)) (tn hn (by decide)) (tn hn (by decide)) (tn hn (by decide)) (tn hn (by decide)) (tn hn (by decide))) (hFq9 148 (by decide) (by decide) (by decide) (by decide) (by decide) (by decide)) (hFq9 149 (by decide) (by decide) (by decide) (by decide) (by decide) (by decide)) hR.1) hR)⟩
set_option maxRecDepth 100000 in
set_option maxHeartbeats 8000000 in
theorem LC_26 {xs : List Int32} {Q : pm_R → Prop} {f : Nat → Int32} {A : Nat → List Int32} {R : Nat → Value} {g : Nat → Int32} {B : Nat → List Int32} {x3 : Int32} (h3 : 0 ≤ x3.toInt) (h4 : x3.toInt + 7 ≤ xs.length) (hl : xs.length ≤ 3584) (hS : ST f A R g B) (kk : ∀ (f' : Nat → Int32) (A' : Nat → List Int32) (R' : Nat → Value) (g' : Nat → Int32) (B' : Nat → List Int32), ST f' A' R' g' B' → pmE pg (pg_X xs) pg_tyl pg_cl 41 318 2477 [.retAddr 0, .ref 0, .ref 147, .int x3] [] (cd f' A' R' (em g' B')) Q) : pmE pg (pg_X xs) pg_tyl pg_cl 41 318 1543 [.retAddr 0, .ref 0, .ref 147, .int x3] [] (cd f A R (em g B)) Q := by
  obtain ⟨hC, hM, hR⟩ := hS
  refine pe_aload_n (j := 1) (by decide +kernel) rfl ?_
  refine pe_aloadX_n (j := 0) (by decide +kernel) rfl ?_
  refine pe_iload_n (j := 3) (by decide +kernel) rfl ?_
  refine pe_iconstv (n := 1) (v := 1) (by decide +kernel) (by decide +kernel) ?_
  refine pz_add (by decide +kernel) rfl kz_1 (by omega) (by omega) (fun z1 hz1 => ?_)
  refine pz_ialdX (n := xs.length) (by decide +kernel) (show pg_X xs 0 = some (0, xs, 0) from rfl) rfl hz1 (by omega) (by omega) (fun v2 ev2 => ?_)
  clear hz1
  refine pe_aloadX_n (j := 0) (by decide +kernel) rfl ?_
  refine pe_iload_n (j := 3) (by decide +kernel) rfl ?_
  refine pe_iconstv (n := 2) (v := 2) (by decide +kernel) (by decide +kernel) ?_
  refine pz_add (by decide +kernel) rfl kz_2 (by omega) (by omega) (fun z3 hz3 => ?_)
  refine pz_ialdX (n := xs.length) (by decide +kernel) (show pg_X xs 0 = some (0, xs, 0) from rfl) rfl hz3 (by omega) (by omega) (fun v4 ev4 => ?_)
  clear hz3
  refine pe_aloadX_n (j := 0) (by decide +kernel) rfl ?_
  refine pe_iload_n (j := 3) (by decide +kernel) rfl ?_
  refine pe_iconstv (n := 3) (v := 3) (by decide +kernel) (by decide +kernel) ?_
  refine pz_add (by decide +kernel) rfl kz_3 (by omega) (by omega) (fun z5 hz5 => ?_)
  refine pz_ialdX (n := xs.length) (by decide +kernel) (show pg_X xs 0 = some (0, xs, 0) from rfl) rfl hz5 (by omega) (by omega) (fun v6 ev6 => ?_)
  clear hz5
  refine pe_aloadX_n (j := 0) (by decide +kernel) rfl ?_
  refine pe_iload_n (j := 3) (by decide +kernel) rfl ?_
  refine pe_iconstv (n := 4) (v := 4) (by decide +kernel) (by decide +kernel) ?_
  refine pz_add (by decide +kernel) rfl kz_4 (by omega) (by omega) (fun z7 hz7 => ?_)
  refine pz_ialdX (n := xs.length) (by decide +kernel) (show pg_X xs 0 = some (0, xs, 0) from rfl) rfl hz7 (by omega) (by omega) (fun v8 ev8 => ?_)
  clear hz7
  refine pe_aloadX_n (j := 0) (by decide +kernel) rfl ?_
  refine pe_iload_n (j := 3) (by decide +kernel) rfl ?_
  refine pe_iconstv (n := 5) (v := 5) (by decide +kernel) (by decide +kernel) ?_
  refine pz_add (by decide +kernel) rfl kz_5 (by omega) (by omega) (fun z9 hz9 => ?_)
  refine pz_ialdX (n := xs.length) (by decide +kernel) (show pg_X xs 0 = some (0, xs, 0) from rfl) rfl hz9 (by omega) (by omega) (fun v10 ev10 => ?_)
  clear hz9
  refine pz_if_eq (off := 7) (t := 1576) (by decide +kernel) (by decide) rfl rfl (fun h11 => ?_) (fun h11 => ?_)
  · skip
    refine pe_iconstv (n := 0) (v := 0) (by decide +kernel) (by decide +kernel) ?_
    refine pz_callV (j := 127) (mj := 121) (by decide +kernel) (cll_V (args := [.int 0, .int v8, .int v6, .int v4, .int v2]) (n := 5) (by decide +kernel) rfl rfl cd_o0 (by decide +kernel) (Nat.le_of_ble_eq_true rfl) (Nat.le_of_ble_eq_true rfl)) (CM_121 st_XO hC) (fun q12a q12b q12c q12d hqq12 => ?_)
    obtain ⟨f13, A14, R15, rq12, eq12, hIq12, hGq12, hFq12, hHq12, kq12⟩ := hqq12
    cases eq12
    refine ⟨rfl, rfl, ?_⟩
    show pmE pg (pg_X xs) pg_tyl pg_cl 41 318 1580 [.retAddr 0, .ref 0, .ref 147, .int x3] [.int rq12] (cd f13 A14 R15 (em g B)) _
    refine pe_pop (by decide +kernel) rfl ?_
    refine pe_aload_n (j := 2) (by decide +kernel) rfl ?_
    refine pe_aloadX_n (j := 0) (by decide +kernel) rfl ?_
    refine pe_iload_n (j := 3) (by decide +kernel) rfl ?_
    refine pe_iconstv (n := 1) (v := 1) (by decide +kernel) (by decide +kernel) ?_
    refine pz_add (by decide +kernel) rfl kz_1 (by omega) (by omega) (fun z16 hz16 => ?_)
    refine pz_ialdX (n := xs.length) (by decide +kernel) (show pg_X xs 0 = some (0, xs, 0) from rfl) rfl hz16 (by omega) (by omega) (fun v17 ev17 => ?_)
    clear hz16
    refine pe_aloadX_n (j := 0) (by decide +kernel) rfl ?_
    refine pe_iload_n (j := 3) (by decide +kernel) rfl ?_
    refine pe_iconstv (n := 2) (v := 2) (by decide +kernel) (by decide +kernel) ?_
    refine pz_add (by decide +kernel) rfl kz_2 (by omega) (by omega) (fun z18 hz18 => ?_)
    refine pz_ialdX (n := xs.length) (by decide +kernel) (show pg_X xs 0 = some (0, xs, 0) from rfl) rfl hz18 (by omega) (by omega) (fun v19 ev19 => ?_)
    clear hz18
    refine pe_aloadX_n (j := 0) (by decide +kernel) rfl ?_
    refine pe_iload_n (j := 3) (by decide +kernel) rfl ?_
    refine pe_iconstv (n := 3) (v := 3) (by decide +kernel) (by decide +kernel) ?_
    refine pz_add (by decide +kernel) rfl kz_3 (by omega) (by omega) (fun z20 hz20 => ?_)
    refine pz_ialdX (n := xs.length) (by decide +kernel) (show pg_X xs 0 = some (0, xs, 0) from rfl) rfl hz20 (by omega) (by omega) (fun v21 ev21 => ?_)
    clear hz20
    refine pe_aloadX_n (j := 0) (by decide +kernel) rfl ?_
    refine pe_iload_n (j := 3) (by decide +kernel) rfl ?_
    refine pe_iconstv (n := 4) (v := 4) (by decide +kernel) (by decide +kernel) ?_
    refine pz_add (by decide +kernel) rfl kz_4 (by omega) (by omega) (fun z22 hz22 => ?_)
    refine pz_ialdX (n := xs.length) (by decide +kernel) (show pg_X xs 0 = some (0, xs, 0) from rfl) rfl hz22 (by omega) (by omega) (fun v23 ev23 => ?_)
    clear hz22
    refine pe_aloadX_n (j := 0) (by decide +kernel) rfl ?_
    refine pe_iload_n (j := 3) (by decide +kernel) rfl ?_
    refine pe_iconstv (n := 5) (v := 5) (by decide +kernel) (by decide +kernel) ?_
    refine pz_add (by decide +kernel) rfl kz_5 (by omega) (by omega) (fun z24 hz24 => ?_)
    refine pz_ialdX (n := xs.length) (by decide +kernel) (show pg_X xs 0 = some (0, xs, 0) from rfl) rfl hz24 (by omega) (by omega) (fun v25 ev25 => ?_)
    clear hz24
    refine pz_if_eq (off := 7) (t := 1614) (by decide +kernel) (by decide) rfl rfl (fun h26 => ?_) (fun h26 => ?_)
    · skip
      refine pe_iconstv (n := 0) (v := 0) (by decide +kernel) (by decide +kernel) ?_
      show pmE pg (pg_X xs) pg_tyl pg_cl 41 318 1615 [.retAddr 0, .ref 0, .ref 147, .int x3] [.int 0, .int v23, .int v21, .int v19, .int v17, .ref 147] (md (cc f13 A14 R15) g B) _
      refine pz_callV (j := 131) (mj := 298) (by decide +kernel) (cll_V (args := [.int 0, .int v23, .int v21, .int v19, .int v17]) (n := 5) (by decide +kernel) rfl rfl (md_o cc_len) (by decide +kernel) (Nat.le_of_ble_eq_true rfl) (Nat.le_of_ble_eq_true rfl)) (MM_298 cc_len hM) (fun q27a q27b q27c q27d hqq27 => ?_)
      obtain ⟨g28, B29, rq27, eq27, hIq27, hGq27, hFq27, kq27⟩ := hqq27
      cases eq27
      refine ⟨rfl, rfl, ?_⟩
      show pmE pg (pg_X xs) pg_tyl pg_cl 41 318 1618 [.retAddr 0, .ref 0, .ref 147, .int x3] [.int rq27] (cd f13 A14 R15 (em g28 B29)) _
      refine pe_pop (by decide +kernel) rfl ?_
      refine pe_goto (off := 858) (t := 2477) (by decide +kernel) (by decide) rfl ?_
      exact kk _ _ _ _ _ ⟨hIq12, hIq27, (RL5_t (hGq27 31 (by decide) (by decide) (by decide)) (hGq27 32 (by decide) (by decide) (by decide)) (RL4_fr hIq12 hIq27 (fun n hn => hGq12 n (tn hn (by decide)) (tn hn (by decide))) (fun n hn => hFq12 n (tn hn (by decide)) (tn hn (by decide)) (tn hn (by decide))) (hFq27 148 (by decide) (by decide)) (hFq27 149 (by decide) (by decide)) hR.1) hR)⟩
    · skip
      refine pe_iconstv (n := 1) (v := 1) (by decide +kernel) (by decide +kernel) ?_
      refine pe_goto (off := 4) (t := 1615) (by decide +kernel) (by decide) rfl ?_
      show pmE pg (pg_X xs) pg_tyl pg_cl 41 318 1615 [.retAddr 0, .ref 0, .ref 147, .int x3] [.int 1, .int v23, .int v21, .int v19, .int v17, .ref 147] (md (cc f13 A14 R15) g B) _
      refine pz_callV (j := 131) (mj := 298) (by decide +kernel) (cll_V (args := [.int 1, .int v23, .int v21, .int v19, .int v17]) (n := 5) (by decide +kernel) rfl rfl (md_o cc_len) (by decide +kernel) (Nat.le_of_ble_eq_true rfl) (Nat.le_of_ble_eq_true rfl)) (MM_298 cc_len hM) (fun q30a q30b q30c q30d hqq30 => ?_)
      obtain ⟨g31, B32, rq30, eq30, hIq30, hGq30, hFq30, kq30⟩ := hqq30
      cases eq30
      refine ⟨rfl, rfl, ?_⟩
      show pmE pg (pg_X xs) pg_tyl pg_cl 41 318 1618 [.retAddr 0, .ref 0, .ref 147, .int x3] [.int rq30] (cd f13 A14 R15 (em g31 B32)) _
      refine pe_pop (by decide +kernel) rfl ?_
      refine pe_goto (off := 858) (t := 2477) (by decide +kernel) (by decide) rfl ?_
      exact kk _ _ _ _ _ ⟨hIq12, hIq30, (RL5_t (hGq30 31 (by decide) (by decide) (by decide)) (hGq30 32 (by decide) (by decide) (by decide)) (RL4_fr hIq12 hIq30 (fun n hn => hGq12 n (tn hn (by decide)) (tn hn (by decide))) (fun n hn => hFq12 n (tn hn (by decide)) (tn hn (by decide)) (tn hn (by decide))) (hFq30 148 (by decide) (by decide)) (hFq30 149 (by decide) (by decide)) hR.1) hR)⟩
  · skip
    refine pe_iconstv (n := 1) (v := 1) (by decide +kernel) (by decide +kernel) ?_
    refine pe_goto (off := 4) (t := 1577) (by decide +kernel) (by decide) rfl ?_
    refine pz_callV (j := 127) (mj := 121) (by decide +kernel) (cll_V (args := [.int 1, .int v8, .int v6, .int v4, .int v2]) (n := 5) (by decide +kernel) rfl rfl cd_o0 (by decide +kernel) (Nat.le_of_ble_eq_true rfl) (Nat.le_of_ble_eq_true rfl)) (CM_121 st_XO hC) (fun q33a q33b q33c q33d hqq33 => ?_)
    obtain ⟨f34, A35, R36, rq33, eq33, hIq33, hGq33, hFq33, hHq33, kq33⟩ := hqq33
    cases eq33
    refine ⟨rfl, rfl, ?_⟩
    show pmE pg (pg_X xs) pg_tyl pg_cl 41 318 1580 [.retAddr 0, .ref 0, .ref 147, .int x3] [.int rq33] (cd f34 A35 R36 (em g B)) _
    refine pe_pop (by decide +kernel) rfl ?_
    refine pe_aload_n (j := 2) (by decide +kernel) rfl ?_
    refine pe_aloadX_n (j := 0) (by decide +kernel) rfl ?_
    refine pe_iload_n (j := 3) (by decide +kernel) rfl ?_
    refine pe_iconstv (n := 1) (v := 1) (by decide +kernel) (by decide +kernel) ?_
    refine pz_add (by decide +kernel) rfl kz_1 (by omega) (by omega) (fun z37 hz37 => ?_)
    refine pz_ialdX (n := xs.length) (by decide +kernel) (show pg_X xs 0 = some (0, xs, 0) from rfl) rfl hz37 (by omega) (by omega) (fun v38 ev38 => ?_)
    clear hz37
    refine pe_aloadX_n (j := 0) (by decide +kernel) rfl ?_
    refine pe_iload_n (j := 3) (by decide +kernel) rfl ?_
    refine pe_iconstv (n := 2) (v := 2) (by decide +kernel) (by decide +kernel) ?_
    refine pz_add (by decide +kernel) rfl kz_2 (by omega) (by omega) (fun z39 hz39 => ?_)
    refine pz_ialdX (n := xs.length) (by decide +kernel) (show pg_X xs 0 = some (0, xs, 0) from rfl) rfl hz39 (by omega) (by omega) (fun v40 ev40 => ?_)
    clear hz39
    refine pe_aloadX_n (j := 0) (by decide +kernel) rfl ?_
    refine pe_iload_n (j := 3) (by decide +kernel) rfl ?_
    refine pe_iconstv (n := 3) (v := 3) (by decide +kernel) (by decide +kernel) ?_
    refine pz_add (by decide +kernel) rfl kz_3 (by omega) (by omega) (fun z41 hz41 => ?_)
    refine pz_ialdX (n := xs.length) (by decide +kernel) (show pg_X xs 0 = some (0, xs, 0) from rfl) rfl hz41 (by omega) (by omega) (fun v42 ev42 => ?_)
    clear hz41
    refine pe_aloadX_n (j := 0) (by decide +kernel) rfl ?_
    refine pe_iload_n (j := 3) (by decide +kernel) rfl ?_
    refine pe_iconstv (n := 4) (v := 4) (by decide +kernel) (by decide +kernel) ?_
    refine pz_add (by decide +kernel) rfl kz_4 (by omega) (by omega) (fun z43 hz43 => ?_)
    refine pz_ialdX (n := xs.length) (by decide +kernel) (show pg_X xs 0 = some (0, xs, 0) from rfl) rfl hz43 (by omega) (by omega) (fun v44 ev44 => ?_)
    clear hz43
    refine pe_aloadX_n (j := 0) (by decide +kernel) rfl ?_
    refine pe_iload_n (j := 3) (by decide +kernel) rfl ?_
    refine pe_iconstv (n := 5) (v := 5) (by decide +kernel) (by decide +kernel) ?_
    refine pz_add (by decide +kernel) rfl kz_5 (by omega) (by omega) (fun z45 hz45 => ?_)
    refine pz_ialdX (n := xs.length) (by decide +kernel) (show pg_X xs 0 = some (0, xs, 0) from rfl) rfl hz45 (by omega) (by omega) (fun v46 ev46 => ?_)
    clear hz45
    refine pz_if_eq (off := 7) (t := 1614) (by decide +kernel) (by decide) rfl rfl (fun h47 => ?_) (fun h47 => ?_)
    · skip
      refine pe_iconstv (n := 0) (v := 0) (by decide +kernel) (by decide +kernel) ?_
      show pmE pg (pg_X xs) pg_tyl pg_cl 41 318 1615 [.retAddr 0, .ref 0, .ref 147, .int x3] [.int 0, .int v44, .int v42, .int v40, .int v38, .ref 147] (md (cc f34 A35 R36) g B) _
      refine pz_callV (j := 131) (mj := 298) (by decide +kernel) (cll_V (args := [.int 0, .int v44, .int v42, .int v40, .int v38]) (n := 5) (by decide +kernel) rfl rfl (md_o cc_len) (by decide +kernel) (Nat.le_of_ble_eq_true rfl) (Nat.le_of_ble_eq_true rfl)) (MM_298 cc_len hM) (fun q48a q48b q48c q48d hqq48 => ?_)
      obtain ⟨g49, B50, rq48, eq48, hIq48, hGq48, hFq48, kq48⟩ := hqq48
      cases eq48
      refine ⟨rfl, rfl, ?_⟩
      show pmE pg (pg_X xs) pg_tyl pg_cl 41 318 1618 [.retAddr 0, .ref 0, .ref 147, .int x3] [.int rq48] (cd f34 A35 R36 (em g49 B50)) _
      refine pe_pop (by decide +kernel) rfl ?_
      refine pe_goto (off := 858) (t := 2477) (by decide +kernel) (by decide) rfl ?_
      exact kk _ _ _ _ _ ⟨hIq33, hIq48, (RL5_t (hGq48 31 (by decide) (by decide) (by decide)) (hGq48 32 (by decide) (by decide) (by decide)) (RL4_fr hIq33 hIq48 (fun n hn => hGq33 n (tn hn (by decide)) (tn hn (by decide))) (fun n hn => hFq33 n (tn hn (by decide)) (tn hn (by decide)) (tn hn (by decide))) (hFq48 148 (by decide) (by decide)) (hFq48 149 (by decide) (by decide)) hR.1) hR)⟩
    · skip
      refine pe_iconstv (n := 1) (v := 1) (by decide +kernel) (by decide +kernel) ?_
      refine pe_goto (off := 4) (t := 1615) (by decide +kernel) (by decide) rfl ?_
      show pmE pg (pg_X xs) pg_tyl pg_cl 41 318 1615 [.retAddr 0, .ref 0, .ref 147, .int x3] [.int 1, .int v44, .int v42, .int v40, .int v38, .ref 147] (md (cc f34 A35 R36) g B) _
      refine pz_callV (j := 131) (mj := 298) (by decide +kernel) (cll_V (args := [.int 1, .int v44, .int v42, .int v40, .int v38]) (n := 5) (by decide +kernel) rfl rfl (md_o cc_len) (by decide +kernel) (Nat.le_of_ble_eq_true rfl) (Nat.le_of_ble_eq_true rfl)) (MM_298 cc_len hM) (fun q51a q51b q51c q51d hqq51 => ?_)
      obtain ⟨g52, B53, rq51, eq51, hIq51, hGq51, hFq51, kq51⟩ := hqq51
      cases eq51
      refine ⟨rfl, rfl, ?_⟩
      show pmE pg (pg_X xs) pg_tyl pg_cl 41 318 1618 [.retAddr 0, .ref 0, .ref 147, .int x3] [.int rq51] (cd f34 A35 R36 (em g52 B53)) _
      refine pe_pop (by decide +kernel) rfl ?_
      refine pe_goto (off := 858) (t := 2477) (by decide +kernel) (by decide) rfl ?_
      exact kk _ _ _ _ _ ⟨hIq33, hIq51, (RL5_t (hGq51 31 (by decide) (by decide) (by decide)) (hGq51 32 (by decide) (by decide) (by decide)) (RL4_fr hIq33 hIq51 (fun n hn => hGq33 n (tn hn (by decide)) (tn hn (by decide))) (fun n hn => hFq33 n (tn hn (by decide)) (tn hn (by decide)) (tn hn (by decide))) (hFq51 148 (by decide) (by decide)) (hFq51 149 (by decide) (by decide)) hR.1) hR)⟩
set_option maxRecDepth 100000 in
set_option maxHeartbeats 8000000 in
theorem LC_27 {xs : List Int32} {Q : pm_R → Prop} {f : Nat → Int32} {A : Nat → List Int32} {R : Nat → Value} {g : Nat → Int32} {B : Nat → List Int32} {x3 : Int32} (h3 : 0 ≤ x3.toInt) (h4 : x3.toInt + 7 ≤ xs.length) (hl : xs.length ≤ 3584) (hS : ST f A R g B) (kk : ∀ (f' : Nat → Int32) (A' : Nat → List Int32) (R' : Nat → Value) (g' : Nat → Int32) (B' : Nat → List Int32), ST f' A' R' g' B' → pmE pg (pg_X xs) pg_tyl pg_cl 41 318 2477 [.retAddr 0, .ref 0, .ref 147, .int x3] [] (cd f' A' R' (em g' B')) Q) : pmE pg (pg_X xs) pg_tyl pg_cl 41 318 1622 [.retAddr 0, .ref 0, .ref 147, .int x3] [] (cd f A R (em g B)) Q := by
  obtain ⟨hC, hM, hR⟩ := hS
  refine pe_aload_n (j := 1) (by decide +kernel) rfl ?_
  refine pe_aloadX_n (j := 0) (by decide +kernel) rfl ?_
  refine pe_iload_n (j := 3) (by decide +kernel) rfl ?_
  refine pe_iconstv (n := 1) (v := 1) (by decide +kernel) (by decide +kernel) ?_
  refine pz_add (by decide +kernel) rfl kz_1 (by omega) (by omega) (fun z1 hz1 => ?_)
  refine pz_ialdX (n := xs.length) (by decide +kernel) (show pg_X xs 0 = some (0, xs, 0) from rfl) rfl hz1 (by omega) (by omega) (fun v2 ev2 => ?_)
  clear hz1
  refine pe_aloadX_n (j := 0) (by decide +kernel) rfl ?_
  refine pe_iload_n (j := 3) (by decide +kernel) rfl ?_
  refine pe_iconstv (n := 2) (v := 2) (by decide +kernel) (by decide +kernel) ?_
  refine pz_add (by decide +kernel) rfl kz_2 (by omega) (by omega) (fun z3 hz3 => ?_)
  refine pz_ialdX (n := xs.length) (by decide +kernel) (show pg_X xs 0 = some (0, xs, 0) from rfl) rfl hz3 (by omega) (by omega) (fun v4 ev4 => ?_)
  clear hz3
  refine pe_aloadX_n (j := 0) (by decide +kernel) rfl ?_
  refine pe_iload_n (j := 3) (by decide +kernel) rfl ?_
  refine pe_iconstv (n := 3) (v := 3) (by decide +kernel) (by decide +kernel) ?_
  refine pz_add (by decide +kernel) rfl kz_3 (by omega) (by omega) (fun z5 hz5 => ?_)
  refine pz_ialdX (n := xs.length) (by decide +kernel) (show pg_X xs 0 = some (0, xs, 0) from rfl) rfl hz5 (by omega) (by omega) (fun v6 ev6 => ?_)
  clear hz5
  refine pe_aloadX_n (j := 0) (by decide +kernel) rfl ?_
  refine pe_iload_n (j := 3) (by decide +kernel) rfl ?_
  refine pe_iconstv (n := 4) (v := 4) (by decide +kernel) (by decide +kernel) ?_
  refine pz_add (by decide +kernel) rfl kz_4 (by omega) (by omega) (fun z7 hz7 => ?_)
  refine pz_ialdX (n := xs.length) (by decide +kernel) (show pg_X xs 0 = some (0, xs, 0) from rfl) rfl hz7 (by omega) (by omega) (fun v8 ev8 => ?_)
  clear hz7
  refine pe_aloadX_n (j := 0) (by decide +kernel) rfl ?_
  refine pe_iload_n (j := 3) (by decide +kernel) rfl ?_
  refine pe_iconstv (n := 5) (v := 5) (by decide +kernel) (by decide +kernel) ?_
  refine pz_add (by decide +kernel) rfl kz_5 (by omega) (by omega) (fun z9 hz9 => ?_)
  refine pz_ialdX (n := xs.length) (by decide +kernel) (show pg_X xs 0 = some (0, xs, 0) from rfl) rfl hz9 (by omega) (by omega) (fun v10 ev10 => ?_)
  clear hz9
  refine pz_callV (j := 132) (mj := 145) (by decide +kernel) (cll_V (args := [.int v10, .int v8, .int v6, .int v4, .int v2]) (n := 5) (by decide +kernel) rfl rfl cd_o0 (by decide +kernel) (Nat.le_of_ble_eq_true rfl) (Nat.le_of_ble_eq_true rfl)) (CM_145 st_XO hC) (fun q11a q11b q11c q11d hqq11 => ?_)
  obtain ⟨f12, A13, R14, rq11, eq11, hIq11, hGq11, hFq11, hHq11, kq11⟩ := hqq11
  cases eq11
  refine ⟨rfl, rfl, ?_⟩
  show pmE pg (pg_X xs) pg_tyl pg_cl 41 318 1651 [.retAddr 0, .ref 0, .ref 147, .int x3] [.int rq11] (cd f12 A13 R14 (em g B)) _
  refine pe_pop (by decide +kernel) rfl ?_
  refine pe_aload_n (j := 2) (by decide +kernel) rfl ?_
  refine pe_aloadX_n (j := 0) (by decide +kernel) rfl ?_
  refine pe_iload_n (j := 3) (by decide +kernel) rfl ?_
  refine pe_iconstv (n := 1) (v := 1) (by decide +kernel) (by decide +kernel) ?_
  refine pz_add (by decide +kernel) rfl kz_1 (by omega) (by omega) (fun z15 hz15 => ?_)
  refine pz_ialdX (n := xs.length) (by decide +kernel) (show pg_X xs 0 = some (0, xs, 0) from rfl) rfl hz15 (by omega) (by omega) (fun v16 ev16 => ?_)
  clear hz15
  refine pe_aloadX_n (j := 0) (by decide +kernel) rfl ?_
  refine pe_iload_n (j := 3) (by decide +kernel) rfl ?_
  refine pe_iconstv (n := 2) (v := 2) (by decide +kernel) (by decide +kernel) ?_
  refine pz_add (by decide +kernel) rfl kz_2 (by omega) (by omega) (fun z17 hz17 => ?_)
  refine pz_ialdX (n := xs.length) (by decide +kernel) (show pg_X xs 0 = some (0, xs, 0) from rfl) rfl hz17 (by omega) (by omega) (fun v18 ev18 => ?_)
  clear hz17
  refine pe_aloadX_n (j := 0) (by decide +kernel) rfl ?_
  refine pe_iload_n (j := 3) (by decide +kernel) rfl ?_
  refine pe_iconstv (n := 3) (v := 3) (by decide +kernel) (by decide +kernel) ?_
  refine pz_add (by decide +kernel) rfl kz_3 (by omega) (by omega) (fun z19 hz19 => ?_)
  refine pz_ialdX (n := xs.length) (by decide +kernel) (show pg_X xs 0 = some (0, xs, 0) from rfl) rfl hz19 (by omega) (by omega) (fun v20 ev20 => ?_)
  clear hz19
  refine pe_aloadX_n (j := 0) (by decide +kernel) rfl ?_
  refine pe_iload_n (j := 3) (by decide +kernel) rfl ?_
  refine pe_iconstv (n := 4) (v := 4) (by decide +kernel) (by decide +kernel) ?_
  refine pz_add (by decide +kernel) rfl kz_4 (by omega) (by omega) (fun z21 hz21 => ?_)
  refine pz_ialdX (n := xs.length) (by decide +kernel) (show pg_X xs 0 = some (0, xs, 0) from rfl) rfl hz21 (by omega) (by omega) (fun v22 ev22 => ?_)
  clear hz21
  refine pe_aloadX_n (j := 0) (by decide +kernel) rfl ?_
  refine pe_iload_n (j := 3) (by decide +kernel) rfl ?_
  refine pe_iconstv (n := 5) (v := 5) (by decide +kernel) (by decide +kernel) ?_
  refine pz_add (by decide +kernel) rfl kz_5 (by omega) (by omega) (fun z23 hz23 => ?_)
  refine pz_ialdX (n := xs.length) (by decide +kernel) (show pg_X xs 0 = some (0, xs, 0) from rfl) rfl hz23 (by omega) (by omega) (fun v24 ev24 => ?_)
  clear hz23
  show pmE pg (pg_X xs) pg_tyl pg_cl 41 318 1678 [.retAddr 0, .ref 0, .ref 147, .int x3] [.int v24, .int v22, .int v20, .int v18, .int v16, .ref 147] (md (cc f12 A13 R14) g B) _
  refine pz_callV (j := 135) (mj := 273) (by decide +kernel) (cll_V (args := [.int v24, .int v22, .int v20, .int v18, .int v16]) (n := 5) (by decide +kernel) rfl rfl (md_o cc_len) (by decide +kernel) (Nat.le_of_ble_eq_true rfl) (Nat.le_of_ble_eq_true rfl)) (MM_273 cc_len hM) (fun q25a q25b q25c q25d hqq25 => ?_)
  obtain ⟨g26, B27, rq25, eq25, hIq25, hGq25, hFq25, kq25⟩ := hqq25
  cases eq25
  refine ⟨rfl, rfl, ?_⟩
  show pmE pg (pg_X xs) pg_tyl pg_cl 41 318 1681 [.retAddr 0, .ref 0, .ref 147, .int x3] [.int rq25] (cd f12 A13 R14 (em g26 B27)) _
  refine pe_pop (by decide +kernel) rfl ?_
  refine pe_goto (off := 795) (t := 2477) (by decide +kernel) (by decide) rfl ?_
  exact kk _ _ _ _ _ ⟨hIq11, hIq25, (RL5_t (hGq25 31 (by decide) (by decide) (by decide) (by decide) (by decide)) (hGq25 32 (by decide) (by decide) (by decide) (by decide) (by decide)) (RL4_fr hIq11 hIq25 (fun n hn => hGq11 n (tn hn (by decide)) (tn hn (by decide)) (tn hn (by decide)) (tn hn (by decide)) (tn hn (by decide)) (tn hn (by decide))) (fun n hn => hFq11 n (tn hn (by decide)) (tn hn (by decide)) (tn hn (by decide)) (tn hn (by decide)) (tn hn (by decide)) (tn hn (by decide))) (hFq25 148 (by decide) (by decide) (by decide) (by decide)) (hFq25 149 (by decide) (by decide) (by decide) (by decide)) hR.1) hR)⟩
set_option maxRecDepth 100000 in
set_option maxHeartbeats 8000000 in
theorem LC_28 {xs : List Int32} {Q : pm_R → Prop} {f : Nat → Int32} {A : Nat → List Int32} {R : Nat → Value} {g : Nat → Int32} {B : Nat → List Int32} {x3 : Int32} (h3 : 0 ≤ x3.toInt) (h4 : x3.toInt + 7 ≤ xs.length) (hl : xs.length ≤ 3584) (hS : ST f A R g B) (kk : ∀ (f' : Nat → Int32) (A' : Nat → List Int32) (R' : Nat → Value) (g' : Nat → Int32) (B' : Nat → List Int32), ST f' A' R' g' B' → pmE pg (pg_X xs) pg_tyl pg_cl 41 318 2477 [.retAddr 0, .ref 0, .ref 147, .int x3] [] (cd f' A' R' (em g' B')) Q) : pmE pg (pg_X xs) pg_tyl pg_cl 41 318 1685 [.retAddr 0, .ref 0, .ref 147, .int x3] [] (cd f A R (em g B)) Q := by
  obtain ⟨hC, hM, hR⟩ := hS
  refine pe_aload_n (j := 1) (by decide +kernel) rfl ?_
  refine pe_aloadX_n (j := 0) (by decide +kernel) rfl ?_
  refine pe_iload_n (j := 3) (by decide +kernel) rfl ?_
  refine pe_iconstv (n := 1) (v := 1) (by decide +kernel) (by decide +kernel) ?_
  refine pz_add (by decide +kernel) rfl kz_1 (by omega) (by omega) (fun z1 hz1 => ?_)
  refine pz_ialdX (n := xs.length) (by decide +kernel) (show pg_X xs 0 = some (0, xs, 0) from rfl) rfl hz1 (by omega) (by omega) (fun v2 ev2 => ?_)
  clear hz1
  refine pe_aloadX_n (j := 0) (by decide +kernel) rfl ?_
  refine pe_iload_n (j := 3) (by decide +kernel) rfl ?_
  refine pe_iconstv (n := 2) (v := 2) (by decide +kernel) (by decide +kernel) ?_
  refine pz_add (by decide +kernel) rfl kz_2 (by omega) (by omega) (fun z3 hz3 => ?_)
  refine pz_ialdX (n := xs.length) (by decide +kernel) (show pg_X xs 0 = some (0, xs, 0) from rfl) rfl hz3 (by omega) (by omega) (fun v4 ev4 => ?_)
  clear hz3
  refine pe_aloadX_n (j := 0) (by decide +kernel) rfl ?_
  refine pe_iload_n (j := 3) (by decide +kernel) rfl ?_
  refine pe_iconstv (n := 3) (v := 3) (by decide +kernel) (by decide +kernel) ?_
  refine pz_add (by decide +kernel) rfl kz_3 (by omega) (by omega) (fun z5 hz5 => ?_)
  refine pz_ialdX (n := xs.length) (by decide +kernel) (show pg_X xs 0 = some (0, xs, 0) from rfl) rfl hz5 (by omega) (by omega) (fun v6 ev6 => ?_)
  clear hz5
  refine pe_aloadX_n (j := 0) (by decide +kernel) rfl ?_
  refine pe_iload_n (j := 3) (by decide +kernel) rfl ?_
  refine pe_iconstv (n := 4) (v := 4) (by decide +kernel) (by decide +kernel) ?_
  refine pz_add (by decide +kernel) rfl kz_4 (by omega) (by omega) (fun z7 hz7 => ?_)
  refine pz_ialdX (n := xs.length) (by decide +kernel) (show pg_X xs 0 = some (0, xs, 0) from rfl) rfl hz7 (by omega) (by omega) (fun v8 ev8 => ?_)
  clear hz7
  refine pe_aloadX_n (j := 0) (by decide +kernel) rfl ?_
  refine pe_iload_n (j := 3) (by decide +kernel) rfl ?_
  refine pe_iconstv (n := 5) (v := 5) (by decide +kernel) (by decide +kernel) ?_
  refine pz_add (by decide +kernel) rfl kz_5 (by omega) (by omega) (fun z9 hz9 => ?_)
  refine pz_ialdX (n := xs.length) (by decide +kernel) (show pg_X xs 0 = some (0, xs, 0) from rfl) rfl hz9 (by omega) (by omega) (fun v10 ev10 => ?_)
  clear hz9
  refine pe_aloadX_n (j := 0) (by decide +kernel) rfl ?_
  refine pe_iload_n (j := 3) (by decide +kernel) rfl ?_
  refine pe_bipushv (n := 6) (v := 6) (by decide +kernel) (by decide +kernel) ?_
  refine pz_add (by decide +kernel) rfl kz_6 (by omega) (by omega) (fun z11 hz11 => ?_)
  refine pz_ialdX (n := xs.length) (by decide +kernel) (show pg_X xs 0 = some (0, xs, 0) from rfl) rfl hz11 (by omega) (by omega) (fun v12 ev12 => ?_)
  clear hz11
  refine pz_callV (j := 136) (mj := 148) (by decide +kernel) (cll_V (args := [.int v12, .int v10, .int v8, .int v6, .int v4, .int v2]) (n := 6) (by decide +kernel) rfl rfl cd_o0 (by decide +kernel) (Nat.le_of_ble_eq_true rfl) (Nat.le_of_ble_eq_true rfl)) (CM_148 st_XO hC) (fun q13a q13b q13c q13d hqq13 => ?_)
  obtain ⟨f14, A15, R16, rq13, eq13, hIq13, hGq13, hFq13, hHq13, kq13⟩ := hqq13
  cases eq13
  refine ⟨rfl, rfl, ?_⟩
  show pmE pg (pg_X xs) pg_tyl pg_cl 41 318 1720 [.retAddr 0, .ref 0, .ref 147, .int x3] [.int rq13] (cd f14 A15 R16 (em g B)) _
  refine pe_pop (by decide +kernel) rfl ?_
  refine pe_aload_n (j := 2) (by decide +kernel) rfl ?_
  refine pe_aloadX_n (j := 0) (by decide +kernel) rfl ?_
  refine pe_iload_n (j := 3) (by decide +kernel) rfl ?_
  refine pe_iconstv (n := 1) (v := 1) (by decide +kernel) (by decide +kernel) ?_
  refine pz_add (by decide +kernel) rfl kz_1 (by omega) (by omega) (fun z17 hz17 => ?_)
  refine pz_ialdX (n := xs.length) (by decide +kernel) (show pg_X xs 0 = some (0, xs, 0) from rfl) rfl hz17 (by omega) (by omega) (fun v18 ev18 => ?_)
  clear hz17
  refine pe_aloadX_n (j := 0) (by decide +kernel) rfl ?_
  refine pe_iload_n (j := 3) (by decide +kernel) rfl ?_
  refine pe_iconstv (n := 2) (v := 2) (by decide +kernel) (by decide +kernel) ?_
  refine pz_add (by decide +kernel) rfl kz_2 (by omega) (by omega) (fun z19 hz19 => ?_)
  refine pz_ialdX (n := xs.length) (by decide +kernel) (show pg_X xs 0 = some (0, xs, 0) from rfl) rfl hz19 (by omega) (by omega) (fun v20 ev20 => ?_)
  clear hz19
  refine pe_aloadX_n (j := 0) (by decide +kernel) rfl ?_
  refine pe_iload_n (j := 3) (by decide +kernel) rfl ?_
  refine pe_iconstv (n := 3) (v := 3) (by decide +kernel) (by decide +kernel) ?_
  refine pz_add (by decide +kernel) rfl kz_3 (by omega) (by omega) (fun z21 hz21 => ?_)
  refine pz_ialdX (n := xs.length) (by decide +kernel) (show pg_X xs 0 = some (0, xs, 0) from rfl) rfl hz21 (by omega) (by omega) (fun v22 ev22 => ?_)
  clear hz21
  refine pe_aloadX_n (j := 0) (by decide +kernel) rfl ?_
  refine pe_iload_n (j := 3) (by decide +kernel) rfl ?_
  refine pe_iconstv (n := 4) (v := 4) (by decide +kernel) (by decide +kernel) ?_
  refine pz_add (by decide +kernel) rfl kz_4 (by omega) (by omega) (fun z23 hz23 => ?_)
  refine pz_ialdX (n := xs.length) (by decide +kernel) (show pg_X xs 0 = some (0, xs, 0) from rfl) rfl hz23 (by omega) (by omega) (fun v24 ev24 => ?_)
  clear hz23
  refine pe_aloadX_n (j := 0) (by decide +kernel) rfl ?_
  refine pe_iload_n (j := 3) (by decide +kernel) rfl ?_
  refine pe_iconstv (n := 5) (v := 5) (by decide +kernel) (by decide +kernel) ?_
  refine pz_add (by decide +kernel) rfl kz_5 (by omega) (by omega) (fun z25 hz25 => ?_)
  refine pz_ialdX (n := xs.length) (by decide +kernel) (show pg_X xs 0 = some (0, xs, 0) from rfl) rfl hz25 (by omega) (by omega) (fun v26 ev26 => ?_)
  clear hz25
  refine pe_aloadX_n (j := 0) (by decide +kernel) rfl ?_
  refine pe_iload_n (j := 3) (by decide +kernel) rfl ?_
  refine pe_bipushv (n := 6) (v := 6) (by decide +kernel) (by decide +kernel) ?_
  refine pz_add (by decide +kernel) rfl kz_6 (by omega) (by omega) (fun z27 hz27 => ?_)
  refine pz_ialdX (n := xs.length) (by decide +kernel) (show pg_X xs 0 = some (0, xs, 0) from rfl) rfl hz27 (by omega) (by omega) (fun v28 ev28 => ?_)
  clear hz27
  show pmE pg (pg_X xs) pg_tyl pg_cl 41 318 1753 [.retAddr 0, .ref 0, .ref 147, .int x3] [.int v28, .int v26, .int v24, .int v22, .int v20, .int v18, .ref 147] (md (cc f14 A15 R16) g B) _
  refine pz_callV (j := 139) (mj := 300) (by decide +kernel) (cll_V (args := [.int v28, .int v26, .int v24, .int v22, .int v20, .int v18]) (n := 6) (by decide +kernel) rfl rfl (md_o cc_len) (by decide +kernel) (Nat.le_of_ble_eq_true rfl) (Nat.le_of_ble_eq_true rfl)) (MM_300 cc_len hM) (fun q29a q29b q29c q29d hqq29 => ?_)
  obtain ⟨g30, B31, rq29, eq29, hIq29, hGq29, hFq29, kq29⟩ := hqq29
  cases eq29
  refine ⟨rfl, rfl, ?_⟩
  show pmE pg (pg_X xs) pg_tyl pg_cl 41 318 1756 [.retAddr 0, .ref 0, .ref 147, .int x3] [.int rq29] (cd f14 A15 R16 (em g30 B31)) _
  refine pe_pop (by decide +kernel) rfl ?_
  refine pe_goto (off := 720) (t := 2477) (by decide +kernel) (by decide) rfl ?_
  exact kk _ _ _ _ _ ⟨hIq13, hIq29, (RL5_t (hGq29 31 (by decide) (by decide) (by decide)) (hGq29 32 (by decide) (by decide) (by decide)) (RL4_fr hIq13 hIq29 (fun n hn => hGq13 n (tn hn (by decide)) (tn hn (by decide))) (fun n hn => hFq13 n (tn hn (by decide)) (tn hn (by decide)) (tn hn (by decide))) (hFq29 148 (by decide) (by decide)) (hFq29 149 (by decide) (by decide)) hR.1) hR)⟩
end
