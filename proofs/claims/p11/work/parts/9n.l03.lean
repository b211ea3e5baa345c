set_option maxRecDepth 100000 in
set_option maxHeartbeats 8000000 in
theorem LC_22 {xs : List Int32} {Q : pm_R → Prop} {f : Nat → Int32} {A : Nat → List Int32} {R : Nat → Value} {g : Nat → Int32} {B : Nat → List Int32} {x3 : Int32} (h3 : 0 ≤ x3.toInt) (h4 : x3.toInt + 7 ≤ xs.length) (hl : xs.length ≤ 3584) (hS : ST f A R g B) (kk : ∀ (f' : Nat → Int32) (A' : Nat → List Int32) (R' : Nat → Value) (g' : Nat → Int32) (B' : Nat → List Int32), ST f' A' R' g' B' → pmE pg (pg_X xs) pg_tyl pg_cl 41 318 2476 [.retAddr 0, .ref 0, .ref 147, .int x3] [] (cd f' A' R' (em g' B')) Q) : pmE pg (pg_X xs) pg_tyl pg_cl 41 318 1370 [.retAddr 0, .ref 0, .ref 147, .int x3] [] (cd f A R (em g B)) Q := by
  obtain ⟨hC, hM, hR⟩ := hS
  refine pe_aload_n (j := 1) (by decide +kernel) rfl ?_
  refine pe_aloadX_n (j := 0) (by decide +kernel) rfl ?_
  refine pe_iload_n (j := 3) (by decide +kernel) rfl ?_
  refine pe_iconstv (n := 1) (v := 1) (by decide +kernel) (by decide +kernel) ?_
  refine pz_add (by decide +kernel) rfl kz_1 (by omega) (by omega) (fun z1 hz1 => ?_)
  refine pz_ialdX (n := xs.length) (by decide +kernel) (show pg_X xs 0 = some (0, xs, 0) from rfl) rfl hz1 (by omega) (by omega) (fun v2 ev2 => ?_)
  clear hz1
  refine pe_aloadX_n (j := 0) (by decide +kernel) rfl ?_
  refine pe_iload_n (j := 3) (by decide +kernel) rfl ?_
  refine pe_iconstv (n := 2) (v := 2) (by decide +kernel) (by decide +kernel) ?_
  refine pz_add (by decide +kernel) rfl kz_2 (by omega) (by omega) (fun z3 hz3 => ?_)
  refine pz_ialdX (n := xs.length) (by decide +kernel) (show pg_X xs 0 = some (0, xs, 0) from rfl) rfl hz3 (by omega) (by omega) (fun v4 ev4 => ?_)
  clear hz3
  refine pe_aloadX_n (j := 0) (by decide +kernel) rfl ?_
  refine pe_iload_n (j := 3) (by decide +kernel) rfl ?_
  refine pe_iconstv (n := 3) (v := 3) (by decide +kernel) (by decide +kernel) ?_
  refine pz_add (by decide +kernel) rfl kz_3 (by omega) (by omega) (fun z5 hz5 => ?_)
  refine pz_ialdX (n := xs.length) (by decide +kernel) (show pg_X xs 0 = some (0, xs, 0) from rfl) rfl hz5 (by omega) (by omega) (fun v6 ev6 => ?_)
  clear hz5
  refine pz_callV (j := 111) (mj := 177) (by decide +kernel) (cll_V (args := [.int v6, .int v4, .int v2]) (n := 3) (by decide +kernel) rfl rfl cd_o0 (by decide +kernel) (Nat.le_of_ble_eq_true rfl) (Nat.le_of_ble_eq_true rfl)) (CM_177 st_XO hC) (fun q7a q7b q7c q7d hqq7 => ?_)
  obtain ⟨f8, A9, R10, rq7, eq7, hIq7, hGq7, hFq7, hHq7, kq7⟩ := hqq7
  cases eq7
  refine ⟨rfl, rfl, ?_⟩
  show pmE pg (pg_X xs) pg_tyl pg_cl 41 318 1389 [.retAddr 0, .ref 0, .ref 147, .int x3] [.int rq7] (cd f8 A9 R10 (em g B)) _
  refine pe_pop (by decide +kernel) rfl ?_
  refine pe_aload_n (j := 2) (by decide +kernel) rfl ?_
  refine pe_aloadX_n (j := 0) (by decide +kernel) rfl ?_
  refine pe_iload_n (j := 3) (by decide +kernel) rfl ?_
  refine pe_iconstv (n := 1) (v := 1) (by decide +kernel) (by decide +kernel) ?_
  refine pz_add (by decide +kernel) rfl kz_1 (by omega) (by omega) (fun z11 hz11 => ?_)
  refine pz_ialdX (n := xs.length) (by decide +kernel) (show pg_X xs 0 = some (0, xs, 0) from rfl) rfl hz11 (by omega) (by omega) (fun v12 ev12 => ?_)
  clear hz11
  refine pe_aloadX_n (j := 0) (by decide +kernel) rfl ?_
  refine pe_iload_n (j := 3) (by decide +kernel) rfl ?_
  refine pe_iconstv (n := 2) (v := 2) (by decide +kernel) (by decide +kernel) ?_
  refine pz_add (by decide +kernel) rfl kz_2 (by omega) (by omega) (fun z13 hz13 => ?_)
  refine pz_ialdX (n := xs.length) (by decide +kernel) (show pg_X xs 0 = some (0, xs, 0) from rfl) rfl hz13 (by omega) (by omega) (fun v14 ev14 => ?_)
  clear hz13
  refine pe_aloadX_n (j := 0) (by decide +kernel) rfl ?_
  refine pe_iload_n (j := 3) (by decide +kernel) rfl ?_
  refine pe_iconstv (n := 3) (v := 3) (by decide +kernel) (by decide +kernel) ?_
  refine pz_add (by decide +kernel) rfl kz_3 (by omega) (by omega) (fun z15 hz15 => ?_)
  refine pz_ialdX (n := xs.length) (by decide +kernel) (show pg_X xs 0 = some (0, xs, 0) from rfl) rfl hz15 (by omega) (by omega) (fun v16 ev16 => ?_)
  clear hz15
  show pmE pg (pg_X xs) pg_tyl pg_cl 41 318 1406 [.retAddr 0, .ref 0, .ref 147, .int x3] [.int v16, .int v14, .int v12, .ref 147] (md (cc f8 A9 R10) g B) _
  refine pz_callV (j := 114) (mj := 290) (by decide +kernel) (cll_V (args := [.int v16, .int v14, .int v12]) (n := 3) (by decide +kernel) rfl rfl (md_o cc_len) (by decide +kernel) (Nat.le_of_ble_eq_true rfl) (Nat.le_of_ble_eq_true rfl)) (NM_290 cc_len hM) (fun q17a q17b q17c q17d hqq17 => ?_)
  obtain ⟨g18, B19, rq17, eq17, hIq17, hGq17, hFq17, kq17⟩ := hqq17
  cases eq17
  refine ⟨rfl, rfl, ?_⟩
  show pmE pg (pg_X xs) pg_tyl pg_cl 41 318 1409 [.retAddr 0, .ref 0, .ref 147, .int x3] [.int rq17] (cd f8 A9 R10 (em g18 B19)) _
  refine pe_pop (by decide +kernel) rfl ?_
  refine pe_goto (off := 1066) (t := 2476) (by decide +kernel) (by decide) rfl ?_
  exact kk _ _ _ _ _ ⟨hIq7, hIq17, (RL4_fr hIq7 hIq17 (fun n hn => hGq7 n (tn hn (by decide)) (tn hn (by decide)) (tn hn (by decide))) (fun n hn => hFq7 n (tn hn (by decide)) (tn hn (by decide)) (tn hn (by decide)) (tn hn (by decide)) (tn hn (by decide)) (tn hn (by decide)) (tn hn (by decide)) (tn hn (by decide)) (tn hn (by decide)) (tn hn (by decide))) (hFq17 148 (by decide) (by decide) (by decide) (by decide) (by decide) (by decide) (by decide)) (hFq17 149 (by decide) (by decide) (by decide) (by decide) (by decide) (by decide) (by decide)) hR)⟩
set_option maxRecDepth 100000 in
set_option maxHeartbeats 8000000 in
theorem LC_23 {xs : List Int32} {Q : pm_R → Prop} {f : Nat → Int32} {A : Nat → List Int32} {R : Nat → Value} {g : Nat → Int32} {B : Nat → List Int32} {x3 : Int32} (h3 : 0 ≤ x3.toInt) (h4 : x3.toInt + 7 ≤ xs.length) (hl : xs.length ≤ 3584) (hS : ST f A R g B) (kk : ∀ (f' : Nat → Int32) (A' : Nat → List Int32) (R' : Nat → Value) (g' : Nat → Int32) (B' : Nat → List Int32), ST f' A' R' g' B' → pmE pg (pg_X xs) pg_tyl pg_cl 41 318 2476 [.retAddr 0, .ref 0, .ref 147, .int x3] [] (cd f' A' R' (em g' B')) Q) : pmE pg (pg_X xs) pg_tyl pg_cl 41 318 1413 [.retAddr 0, .ref 0, .ref 147, .int x3] [] (cd f A R (em g B)) Q := by
  obtain ⟨hC, hM, hR⟩ := hS
  refine pe_aload_n (j := 1) (by decide +kernel) rfl ?_
  refine pe_aloadX_n (j := 0) (by decide +kernel) rfl ?_
  refine pe_iload_n (j := 3) (by decide +kernel) rfl ?_
  refine pe_iconstv (n := 1) (v := 1) (by decide +kernel) (by decide +kernel) ?_
  refine pz_add (by decide +kernel) rfl kz_1 (by omega) (by omega) (fun z1 hz1 => ?_)
  refine pz_ialdX (n := xs.length) (by decide +kernel) (show pg_X xs 0 = some (0, xs, 0) from rfl) rfl hz1 (by omega) (by omega) (fun v2 ev2 => ?_)
  clear hz1
  refine pe_aloadX_n (j := 0) (by decide +kernel) rfl ?_
  refine pe_iload_n (j := 3) (by decide +kernel) rfl ?_
  refine pe_iconstv (n := 2) (v := 2) (by decide +kernel) (by decide +kernel) ?_
  refine pz_add (by decide +kernel) rfl kz_2 (by omega) (by omega) (fun z3 hz3 => ?_)
  refine pz_ialdX (n := xs.length) (by decide +kernel) (show pg_X xs 0 = some (0, xs, 0) from rfl) rfl hz3 (by omega) (by omega) (fun v4 ev4 => ?_)
  clear hz3
  refine pe_aloadX_n (j := 0) (by decide +kernel) rfl ?_
  refine pe_iload_n (j := 3) (by decide +kernel) rfl ?_
  refine pe_iconstv (n := 3) (v := 3) (by decide +kernel) (by decide +kernel) ?_
  refine pz_add (by decide +kernel) rfl kz_3 (by omega) (by omega) (fun z5 hz5 => ?_)
  refine pz_ialdX (n := xs.length) (by decide +kernel) (show pg_X xs 0 = some (0, xs, 0) from rfl) rfl hz5 (by omega) (by omega) (fun v6 ev6 => ?_)
  clear hz5
  refine pe_aloadX_n (j := 0) (by decide +kernel) rfl ?_
  refine pe_iload_n (j := 3) (by decide +kernel) rfl ?_
  refine pe_iconstv (n := 4) (v := 4) (by decide +kernel) (by decide +kernel) ?_
  refine pz_add (by decide +kernel) rfl kz_4 (by omega) (by omega) (fun z7 hz7 => ?_)
  refine pz_ialdX (n := xs.length) (by decide +kernel) (show pg_X xs 0 = some (0, xs, 0) from rfl) rfl hz7 (by omega) (by omega) (fun v8 ev8 => ?_)
  clear hz7
  refine pz_callV (j := 115) (mj := 179) (by decide +kernel) (cll_V (args := [.int v8, .int v6, .int v4, .int v2]) (n := 4) (by decide +kernel) rfl rfl cd_o0 (by decide +kernel) (Nat.le_of_ble_eq_true rfl) (Nat.le_of_ble_eq_true rfl)) (CM_179 st_XO hC) (fun q9a q9b q9c q9d hqq9 => ?_)
  obtain ⟨f10, A11, R12, rq9, eq9, hIq9, hGq9, hFq9, hHq9, kq9⟩ := hqq9
  cases eq9
  refine ⟨rfl, rfl, ?_⟩
  show pmE pg (pg_X xs) pg_tyl pg_cl 41 318 1437 [.retAddr 0, .ref 0, .ref 147, .int x3] [.int rq9] (cd f10 A11 R12 (em g B)) _
  refine pe_pop (by decide +kernel) rfl ?_
  refine pe_aload_n (j := 2) (by decide +kernel) rfl ?_
  refine pe_aloadX_n (j := 0) (by decide +kernel) rfl ?_
  refine pe_iload_n (j := 3) (by decide +kernel) rfl ?_
  refine pe_iconstv (n := 1) (v := 1) (by decide +kernel) (by decide +kernel) ?_
  refine pz_add (by decide +kernel) rfl kz_1 (by omega) (by omega) (fun z13 hz13 => ?_)
  refine pz_ialdX (n := xs.length) (by decide +kernel) (show pg_X xs 0 = some (0, xs, 0) from rfl) rfl hz13 (by omega) (by omega) (fun v14 ev14 => ?_)
  clear hz13
  refine pe_aloadX_n (j := 0) (by decide +kernel) rfl ?_
  refine pe_iload_n (j := 3) (by decide +kernel) rfl ?_
  refine pe_iconstv (n := 2) (v := 2) (by decide +kernel) (by decide +kernel) ?_
  refine pz_add (by decide +kernel) rfl kz_2 (by omega) (by omega) (fun z15 hz15 => ?_)
  refine pz_ialdX (n := xs.length) (by decide +kernel) (show pg_X xs 0 = some (0, xs, 0) from rfl) rfl hz15 (by omega) (by omega) (fun v16 ev16 => ?_)
  clear hz15
  refine pe_aloadX_n (j := 0) (by decide +kernel) rfl ?_
  refine pe_iload_n (j := 3) (by decide +kernel) rfl ?_
  refine pe_iconstv (n := 3) (v := 3) (by decide +kernel) (by decide +kernel) ?_
  refine pz_add (by decide +kernel) rfl kz_3 (by omega) (by omega) (fun z17 hz17 => ?_)
  refine pz_ialdX (n := xs.length) (by decide +kernel) (show pg_X xs 0 = some (0, xs, 0) from rfl) rfl hz17 (by omega) (by omega) (fun v18 ev18 => ?_)
  clear hz17
  refine pe_aloadX_n (j := 0) (by decide +kernel) rfl ?_
  refine pe_iload_n (j := 3) (by decide +kernel) rfl ?_
  refine pe_iconstv (n := 4) (v := 4) (by decide +kernel) (by decide +kernel) ?_
  refine pz_add (by decide +kernel) rfl kz_4 (by omega) (by omega) (fun z19 hz19 => ?_)
  refine pz_ialdX (n := xs.length) (by decide +kernel) (show pg_X xs 0 = some (0, xs, 0) from rfl) rfl hz19 (by omega) (by omega) (fun v20 ev20 => ?_)
  clear hz19
  show pmE pg (pg_X xs) pg_tyl pg_cl 41 318 1459 [.retAddr 0, .ref 0, .ref 147, .int x3] [.int v20, .int v18, .int v16, .int v14, .ref 147] (md (cc f10 A11 R12) g B) _
  refine pz_callV (j := 118) (mj := 291) (by decide +kernel) (cll_V (args := [.int v20, .int v18, .int v16, .int v14]) (n := 4) (by decide +kernel) rfl rfl (md_o cc_len) (by decide +kernel) (Nat.le_of_ble_eq_true rfl) (Nat.le_of_ble_eq_true rfl)) (NM_291 cc_len hM) (fun q21a q21b q21c q21d hqq21 => ?_)
  obtain ⟨g22, B23, rq21, eq21, hIq21, hGq21, hFq21, kq21⟩ := hqq21
  cases eq21
  refine ⟨rfl, rfl, ?_⟩
  show pmE pg (pg_X xs) pg_tyl pg_cl 41 318 1462 [.retAddr 0, .ref 0, .ref 147, .int x3] [.int rq21] (cd f10 A11 R12 (em g22 B23)) _
  refine pe_pop (by decide +kernel) rfl ?_
  refine pe_goto (off := 1013) (t := 2476) (by decide +kernel) (by decide) rfl ?_
  exact kk _ _ _ _ _ ⟨hIq9, hIq21, (RL4_fr hIq9 hIq21 (fun n hn => hGq9 n (tn hn (by decide)) (tn hn (by decide)) (tn hn (by decide))) (fun n hn => hFq9 n (tn hn (by decide)) (tn hn (by decide)) (tn hn (by decide)) (tn hn (by decide)) (tn hn (by decide)) (tn hn (by decide)) (tn hn (by decide)) (tn hn (by decide)) (tn hn (by decide)) (tn hn (by decide))) (hFq21 148 (by decide) (by decide) (by decide) (by decide) (by decide) (by decide) (by decide)) (hFq21 149 (by decide) (by decide) (by decide) (by decide) (by decide) (by decide) (by decide)) hR)⟩
set_option maxRecDepth 100000 in
set_option maxHeartbeats 8000000 in
theorem LC_24 {xs : List Int32} {Q : pm_R → Prop} {f : Nat → Int32} {A : Nat → List Int32} {R : Nat → Value} {g : Nat → Int32} {B : Nat → List Int32} {x3 : Int32} (h3 : 0 ≤ x3.toInt) (h4 : x3.toInt + 7 ≤ xs.length) (hl : xs.length ≤ 3584) (hS : ST f A R g B) (kk : ∀ (f' : Nat → Int32) (A' : Nat → List Int32) (R' : Nat → Value) (g' : Nat → Int32) (B' : Nat → List Int32), ST f' A' R' g' B' → pmE pg (pg_X xs) pg_tyl pg_cl 41 318 2476 [.retAddr 0, .ref 0, .ref 147, .int x3] [] (cd f' A' R' (em g' B')) Q) : pmE pg (pg_X xs) pg_tyl pg_cl 41 318 1466 [.retAddr 0, .ref 0, .ref 147, .int x3] [] (cd f A R (em g B)) Q := by
  obtain ⟨hC, hM, hR⟩ := hS
  refine pe_aload_n (j := 1) (by decide +kernel) rfl ?_
  refine pe_aloadX_n (j := 0) (by decide +kernel) rfl ?_
  refine pe_iload_n (j := 3) (by decide +kernel) rfl ?_
  refine pe_iconstv (n := 1) (v := 1) (by decide +kernel) (by decide +kernel) ?_
  refine pz_add (by decide +kernel) rfl kz_1 (by omega) (by omega) (fun z1 hz1 => ?_)
  refine pz_ialdX (n := xs.length) (by decide +kernel) (show pg_X xs 0 = some (0, xs, 0) from rfl) rfl hz1 (by omega) (by omega) (fun v2 ev2 => ?_)
  clear hz1
  refine pe_aloadX_n (j := 0) (by decide +kernel) rfl ?_
  refine pe_iload_n (j := 3) (by decide +kernel) rfl ?_
  refine pe_iconstv (n := 2) (v := 2) (by decide +kernel) (by decide +kernel) ?_
  refine pz_add (by decide +kernel) rfl kz_2 (by omega) (by omega) (fun z3 hz3 => ?_)
  refine pz_ialdX (n := xs.length) (by decide +kernel) (show pg_X xs 0 = some (0, xs, 0) from rfl) rfl hz3 (by omega) (by omega) (fun v4 ev4 => ?_)
  clear hz3
  refine pe_aloadX_n (j := 0) (by decide +kernel) rfl ?_
  refine pe_iload_n (j := 3) (by decide +kernel) rfl ?_
  refine pe_iconstv (n := 3) (v := 3) (by decide +kernel) (by decide +kernel) ?_
  refine pz_add (by decide +kernel) rfl kz_3 (by omega) (by omega) (fun z5 hz5 => ?_)
  refine pz_ialdX (n := xs.length) (by decide +kernel) (show pg_X xs 0 = some (0, xs, 0) from rfl) rfl hz5 (by omega) (by omega) (fun v6 ev6 => ?_)
  clear hz5
  refine pe_aloadX_n (j := 0) (by decide +kernel) rfl ?_
  refine pe_iload_n (j := 3) (by decide +kernel) rfl ?_
  refine pe_iconstv (n := 4) (v := 4) (by decide +kernel) (by decide +kernel) ?_
  refine pz_add (by decide +kernel) rfl kz_4 (by omega) (by omega) (fun z7 hz7 => ?_)
  refine pz_ialdX (n := xs.length) (by decide +kernel) (show pg_X xs 0 = some (0, xs, 0) from rfl) rfl hz7 (by omega) (by omega) (fun v8 ev8 => ?_)
  clear hz7
  refine pz_callV (j := 119) (mj := 181) (by decide +kernel) (cll_V (args := [.int v8, .int v6, .int v4, .int v2]) (n := 4) (by decide +kernel) rfl rfl cd_o0 (by decide +kernel) (Nat.le_of_ble_eq_true rfl) (Nat.le_of_ble_eq_true rfl)) (CM_181 st_XO hC) (fun q9a q9b q9c q9d hqq9 => ?_)
  obtain ⟨f10, A11, R12, rq9, eq9, hIq9, hGq9, hFq9, hHq9, kq9⟩ := hqq9
  cases eq9
  refine ⟨rfl, rfl, ?_⟩
  show pmE pg (pg_X xs) pg_tyl pg_cl 41 318 1490 [.retAddr 0, .ref 0, .ref 147, .int x3] [.int rq9] (cd f10 A11 R12 (em g B)) _
  refine pe_pop (by decide +kernel) rfl ?_
  refine pe_aload_n (j := 2) (by decide +kernel) rfl ?_
  refine pe_aloadX_n (j := 0) (by decide +kernel) rfl ?_
  refine pe_iload_n (j := 3) (by decide +kernel) rfl ?_
  refine pe_iconstv (n := 1) (v := 1) (by decide +kernel) (by decide +kernel) ?_
  refine pz_add (by decide +kernel) rfl kz_1 (by omega) (by omega) (fun z13 hz13 => ?_)
  refine pz_ialdX (n := xs.length) (by decide +kernel) (show pg_X xs 0 = some (0, xs, 0) from rfl) rfl hz13 (by omega) (by omega) (fun v14 ev14 => ?_)
  clear hz13
  refine pe_aloadX_n (j := 0) (by decide +kernel) rfl ?_
  refine pe_iload_n (j := 3) (by decide +kernel) rfl ?_
  refine pe_iconstv (n := 2) (v := 2) (by decide +kernel) (by decide +kernel) ?_
  refine pz_add (by decide +kernel) rfl kz_2 (by omega) (by omega) (fun z15 hz15 => ?_)
  refine pz_ialdX (n := xs.length) (by decide +kernel) (show pg_X xs 0 = some (0, xs, 0) from rfl) rfl hz15 (by omega) (by omega) (fun v16 ev16 => ?_)
  clear hz15
  refine pe_aloadX_n (j := 0) (by decide +kernel) rfl ?_
  refine pe_iload_n (j := 3) (by decide +kernel) rfl ?_
  refine pe_iconstv (n := 3) (v := 3) (by decide +kernel) (by decide +kernel) ?_
  refine pz_add (by decide +kernel) rfl kz_3 (by omega) (by omega) (fun z17 hz17 => ?_)
  refine pz_ialdX (n := xs.length) (by decide +kernel) (show pg_X xs 0 = some (0, xs, 0) from rfl) rfl hz17 (by omega) (by omega) (fun v18 ev18 => ?_)
  clear hz17
  refine pe_aloadX_n (j := 0) (by decide +kernel) rfl ?_
  refine pe_iload_n (j := 3) (by decide +kernel) rfl ?_
  refine pe_iconstv (n := 4) (v := 4) (by decide +kernel) (by decide +kernel) ?_
  refine pz_add (by decide +kernel) rfl kz_4 (by omega) (by omega) (fun z19 hz19 => ?_)
  refine pz_ialdX (n := xs.length) (by decide +kernel) (show pg_X xs 0 = some (0, xs, 0) from rfl) rfl hz19 (by omega) (by omega) (fun v20 ev20 => ?_)
  clear hz19
  show pmE pg (pg_X xs) pg_tyl pg_cl 41 318 1512 [.retAddr 0, .ref 0, .ref 147, .int x3] [.int v20, .int v18, .int v16, .int v14, .ref 147] (md (cc f10 A11 R12) g B) _
  refine pz_callV (j := 122) (mj := 293) (by decide +kernel) (cll_V (args := [.int v20, .int v18, .int v16, .int v14]) (n := 4) (by decide +kernel) rfl rfl (md_o cc_len) (by decide +kernel) (Nat.le_of_ble_eq_true rfl) (Nat.le_of_ble_eq_true rfl)) (NM_293 cc_len hM) (fun q21a q21b q21c q21d hqq21 => ?_)
  obtain ⟨g22, B23, rq21, eq21, hIq21, hGq21, hFq21, kq21⟩ := hqq21
  cases eq21
  refine ⟨rfl, rfl, ?_⟩
  show pmE pg (pg_X xs) pg_tyl pg_cl 41 318 1515 [.retAddr 0, .ref 0, .ref 147, .int x3] [.int rq21] (cd f10 A11 R12 (em g22 B23)) _
  refine pe_pop (by decide +kernel) rfl ?_
  refine pe_goto (off := 960) (t := 2476) (by decide +kernel) (by decide) rfl ?_
  exact kk _ _ _ _ _ ⟨hIq9, hIq21, (RL4_fr hIq9 hIq21 (fun n hn => hGq9 n (tn hn (by decide)) (tn hn (by decide)) (tn hn (by decide))) (fun n hn => hFq9 n (tn hn (by decide)) (tn hn (by decide)) (tn hn (by decide)) (tn hn (by decide)) (tn hn (by decide)) (tn hn (by decide)) (tn hn (by decide)) (tn hn (by decide)) (tn hn (by decide)) (tn hn (by decide))) (hFq21 148 (by decide) (by decide) (by decide) (by decide) (by decide) (by decide) (by decide) (by decide)) (hFq21 149 (by decide) (by decide) (by decide) (by decide) (by decide) (by decide) (by decide) (by decide)) hR)⟩
set_option maxRecDepth 100000 in
set_option maxHeartbeats 8000000 in
theorem LC_25 {xs : List Int32} {Q : pm_R → Prop} {f : Nat → Int32} {A : Nat → List Int32} {R : Nat → Value} {g : Nat → Int32} {B : Nat → List Int32} {x3 : Int32} (h3 : 0 ≤ x3.toInt) (h4 : x3.toInt + 7 ≤ xs.length) (hl : xs.length ≤ 3584) (hS : ST f A R g B) (kk : ∀ (f' : Nat → Int32) (A' : Nat → List Int32) (R' : Nat → Value) (g' : Nat → Int32) (B' : Nat → List Int32), ST f' A' R' g' B' → pmE pg (pg_X xs) pg_tyl pg_cl 41 318 2476 [.retAddr 0, .ref 0, .ref 147, .int x3] [] (cd f' A' R' (em g' B')) Q) : pmE pg (pg_X xs) pg_tyl pg_cl 41 318 1519 [.retAddr 0, .ref 0, .ref 147, .int x3] [] (cd f A R (em g B)) Q := by
  obtain ⟨hC, hM, hR⟩ := hS
  refine pe_aload_n (j := 1) (by decide +kernel) rfl ?_
  refine pe_aloadX_n (j := 0) (by decide +kernel) rfl ?_
  refine pe_iload_n (j := 3) (by decide +kernel) rfl ?_
  refine pe_iconstv (n := 1) (v := 1) (by decide +kernel) (by decide +kernel) ?_
  refine pz_add (by decide +kernel) rfl kz_1 (by omega) (by omega) (fun z1 hz1 => ?_)
  refine pz_ialdX (n := xs.length) (by decide +kernel) (show pg_X xs 0 = some (0, xs, 0) from rfl) rfl hz1 (by omega) (by omega) (fun v2 ev2 => ?_)
  clear hz1
  refine pz_callV (j := 123) (mj := 183) (by decide +kernel) (cll_V (args := [.int v2]) (n := 1) (by decide +kernel) rfl rfl cd_o0 (by decide +kernel) (Nat.le_of_ble_eq_true rfl) (Nat.le_of_ble_eq_true rfl)) (CM_183 st_XO hC) (fun q3a q3b q3c q3d hqq3 => ?_)
  obtain ⟨f4, A5, R6, rq3, eq3, hIq3, hGq3, hFq3, hHq3, kq3⟩ := hqq3
  cases eq3
  refine ⟨rfl, rfl, ?_⟩
  show pmE pg (pg_X xs) pg_tyl pg_cl 41 318 1528 [.retAddr 0, .ref 0, .ref 147, .int x3] [.int rq3] (cd f4 A5 R6 (em g B)) _
  refine pe_pop (by decide +kernel) rfl ?_
  refine pe_aload_n (j := 2) (by decide +kernel) rfl ?_
  refine pe_aloadX_n (j := 0) (by decide +kernel) rfl ?_
  refine pe_iload_n (j := 3) (by decide +kernel) rfl ?_
  refine pe_iconstv (n := 1) (v := 1) (by decide +kernel) (by decide +kernel) ?_
  refine pz_add (by decide +kernel) rfl kz_1 (by omega) (by omega) (fun z7 hz7 => ?_)
  refine pz_ialdX (n := xs.length) (by decide +kernel) (show pg_X xs 0 = some (0, xs, 0) from rfl) rfl hz7 (by omega) (by omega) (fun v8 ev8 => ?_)
  clear hz7
  show pmE pg (pg_X xs) pg_tyl pg_cl 41 318 1535 [.retAddr 0, .ref 0, .ref 147, .int x3] [.int v8, .ref 147] (md (cc f4 A5 R6) g B) _
  refine pz_callV (j := 126) (mj := 292) (by decide +kernel) (cll_V (args := [.int v8]) (n := 1) (by decide +kernel) rfl rfl (md_o cc_len) (by decide +kernel) (Nat.le_of_ble_eq_true rfl) (Nat.le_of_ble_eq_true rfl)) (NM_292 cc_len hM) (fun q9a q9b q9c q9d hqq9 => ?_)
  obtain ⟨g10, B11, rq9, eq9, hIq9, hGq9, hFq9, kq9⟩ := hqq9
  cases eq9
  refine ⟨rfl, rfl, ?_⟩
  show pmE pg (pg_X xs) pg_tyl pg_cl 41 318 1538 [.retAddr 0, .ref 0, .ref 147, .int x3] [.int rq9] (cd f4 A5 R6 (em g10 B11)) _
  refine pe_pop (by decide +kernel) rfl ?_
  refine pe_goto (off := 937) (t := 2476) (by decide +kernel) (by decide) rfl ?_
  exact kk _ _ _ _ _ ⟨hIq3, hIq9, (RL4_fr hIq3 hIq9 (fun n hn => hGq3 n (tn hn (by decide))) (fun n hn => hFq3 n (tn hn (by decide)) (tn hn (by decide)) (tn hn (by decide)) (tn hn (by decide)) (tn hn (by decide)) (tn hn (by decide)) (tn hn (by decide))) (hFq9 148 (by decide) (by decide) (by decide) (by decide) (by decide) (by decide)) (hFq9 149 (by decide) (by decide) (by decide) (by decide) (by decide) (by decide)) hR)⟩
set_option maxRecDepth 100000 in
set_option maxHeartbeats 8000000 in
theorem LC_26 {xs : List Int32} {Q : pm_R → Prop} {f : Nat → Int32} {A : Nat → List Int32} {R : Nat → Value} {g : Nat → Int32} {B : Nat → List Int32} {x3 : Int32} (h3 : 0 ≤ x3.toInt) (h4 : x3.toInt + 7 ≤ xs.length) (hl : xs.length ≤ 3584) (hS : ST f A R g B) (kk : ∀ (f' : Nat → Int32) (A' : Nat → List Int32) (R' : Nat → Value) (g' : Nat → Int32) (B' : Nat → List Int32), ST f' A' R' g' B' → pmE pg (pg_X xs) pg_tyl pg_cl 41 318 2476 [.retAddr 0, .ref 0, .ref 147, .int x3] [] (cd f' A' R' (em g' B')) Q) : pmE pg (pg_X xs) pg_tyl pg_cl 41 318 1542 [.retAddr 0, .ref 0, .ref 147, .int x3] [] (cd f A R (em g B)) Q := by
  obtain ⟨hC, hM, hR⟩ := hS
  refine pe_aload_n (j := 1) (by decide +kernel) rfl ?_
  refine pe_aloadX_n (j := 0) (by decide +kernel) rfl ?_
  refine pe_iload_n (j := 3) (by decide +kernel) rfl ?_
  refine pe_iconstv (n := 1) (v := 1) (by decide +kernel) (by decide +kernel) ?_
  refine pz_add (by decide +kernel) rfl kz_1 (by omega) (by omega) (fun z1 hz1 => ?_)
  refine pz_ialdX (n := xs.length) (by decide +kernel) (show pg_X xs 0 = some (0, xs, 0) from rfl) rfl hz1 (by omega) (by omega) (fun v2 ev2 => ?_)
  clear hz1
  refine pe_aloadX_n (j := 0) (by decide +kernel) rfl ?_
  refine pe_iload_n (j := 3) (by decide +kernel) rfl ?_
  refine pe_iconstv (n := 2) (v := 2) (by decide +kernel) (by decide +kernel) ?_
  refine pz_add (by decide +kernel) rfl kz_2 (by omega) (by omega) (fun z3 hz3 => ?_)
  refine pz_ialdX (n := xs.length) (by decide +kernel) (show pg_X xs 0 = some (0, xs, 0) from rfl) rfl hz3 (by omega) (by omega) (fun v4 ev4 => ?_)
  clear hz3
  refine pe_aloadX_n (j := 0) (by decide +kernel) rfl ?_
  refine pe_iload_n (j := 3) (by decide +kernel) rfl ?_
  refine pe_iconstv (n := 3) (v := 3) (by decide +kernel) (by decide +kernel) ?_
  refine pz_add (by decide +kernel) rfl kz_3 (by omega) (by omega) (fun z5 hz5 => ?_)
  refine pz_ialdX (n := xs.length) (by decide +kernel) (show pg_X xs 0 = some (0, xs, 0) from rfl) rfl hz5 (by omega) (by omega) (fun v6 ev6 => ?_)
  clear hz5
  refine pe_aloadX_n (j := 0) (by decide +kernel) rfl ?_
  refine pe_iload_n (j := 3) (by decide +kernel) rfl ?_
  refine pe_iconstv (n := 4) (v := 4) (by decide +kernel) (by decide +kernel) ?_
  refine pz_add (by decide +kernel) rfl kz_4 (by omega) (by omega) (fun z7 hz7 => ?_)
  refine pz_ialdX (n := xs.length) (by decide +kernel) (show pg_X xs 0 = some (0, xs, 0) from rfl) rfl hz7 (by omega) (by omega) (fun v8 ev8 => ?_)
  clear hz7
  refine pe_aloadX_n (j := 0) (by decide +kernel) rfl ?_
  refine pe_iload_n (j := 3) (by decide +kernel) rfl ?_
  refine pe_iconstv (n := 5) (v := 5) (by decide +kernel) (by decide +kernel) ?_
  refine pz_add (by decide +kernel) rfl kz_5 (by omega) (by omega) (fun z9 hz9 => ?_)
  refine pz_ialdX (n := xs.length) (by decide +kernel) (show pg_X xs 0 = some (0, xs, 0) from rfl) rfl hz9 (by omega) (by omega) (fun v10 ev10 => ?_)
  clear hz9
  refine pz_if_eq (off := 7) (t := 1575) (by decide +kernel) (by decide) rfl rfl (fun h11 => ?_) (fun h11 => ?_)
  · skip
    refine pe_iconstv (n := 0) (v := 0) (by decide +kernel) (by decide +kernel) ?_
    refine pz_callV (j := 127) (mj := 121) (by decide +kernel) (cll_V (args := [.int 0, .int v8, .int v6, .int v4, .int v2]) (n := 5) (by decide +kernel) rfl rfl cd_o0 (by decide +kernel) (Nat.le_of_ble_eq_true rfl) (Nat.le_of_ble_eq_true rfl)) (CM_121 st_XO hC) (fun q12a q12b q12c q12d hqq12 => ?_)
    obtain ⟨f13, A14, R15, rq12, eq12, hIq12, hGq12, hFq12, hHq12, kq12⟩ := hqq12
    cases eq12
    refine ⟨rfl, rfl, ?_⟩
    show pmE pg (pg_X xs) pg_tyl pg_cl 41 318 1579 [.retAddr 0, .ref 0, .ref 147, .int x3] [.int rq12] (cd f13 A14 R15 (em g B)) _
    refine pe_pop (by decide +kernel) rfl ?_
    refine pe_aload_n (j := 2) (by decide +kernel) rfl ?_
    refine pe_aloadX_n (j := 0) (by decide +kernel) rfl ?_
    refine pe_iload_n (j := 3) (by decide +kernel) rfl ?_
    refine pe_iconstv (n := 1) (v := 1) (by decide +kernel) (by decide +kernel) ?_
    refine pz_add (by decide +kernel) rfl kz_1 (by omega) (by omega) (fun z16 hz16 => ?_)
    refine pz_ialdX (n := xs.length) (by decide +kernel) (show pg_X xs 0 = some (0, xs, 0) from rfl) rfl hz16 (by omega) (by omega) (fun v17 ev17 => ?_)
    clear hz16
    refine pe_aloadX_n (j := 0) (by decide +kernel) rfl ?_
    refine pe_iload_n (j := 3) (by decide +kernel) rfl ?_
    refine pe_iconstv (n := 2) (v := 2) (by decide +kernel) (by decide +kernel) ?_
    refine pz_add (by decide +kernel) rfl kz_2 (by omega) (by omega) (fun z18 hz18 => ?_)
    refine pz_ialdX (n := xs.length) (by decide +kernel) (show pg_X xs 0 = some (0, xs, 0) from rfl) rfl hz18 (by omega) (by omega) (fun v19 ev19 => ?_)
    clear hz18
    refine pe_aloadX_n (j := 0) (by decide +kernel) rfl ?_
    refine pe_iload_n (j := 3) (by decide +kernel) rfl ?_
    refine pe_iconstv (n := 3) (v := 3) (by decide +kernel) (by decide +kernel) ?_
    refine pz_add (by decide +kernel) rfl kz_3 (by omega) (by omega) (fun z20 hz20 => ?_)
    refine pz_ialdX (n := xs.length) (by decide +kernel) (show pg_X xs 0 = some (0, xs, 0) from rfl) rfl hz20 (by omega) (by omega) (fun v21 ev21 => ?_)
    clear hz20
    refine pe_aloadX_n (j := 0) (by decide +kernel) rfl ?_
    refine pe_iload_n (j := 3) (by decide +kernel) rfl ?_
    refine pe_iconstv (n := 4) (v := 4) (by decide +kernel) (by decide +kernel) ?_
    refine pz_add (by decide +kernel) rfl kz_4 (by omega) (by omega) (fun z22 hz22 => ?_)
    refine pz_ialdX (n := xs.length) (by decide +kernel) (show pg_X xs 0 = some (0, xs, 0) from rfl) rfl hz22 (by omega) (by omega) (fun v23 ev23 => ?_)
    clear hz22
    refine pe_aloadX_n (j := 0) (by decide +kernel) rfl ?_
    refine pe_iload_n (j := 3) (by decide +kernel) rfl ?_
    refine pe_iconstv (n := 5) (v := 5) (by decide +kernel) (by decide +kernel) ?_
    refine pz_add (by decide +kernel) rfl kz_5 (by omega) (by omega) (fun z24 hz24 => ?_)
    refine pz_ialdX (n := xs.length) (by decide +kernel) (show pg_X xs 0 = some (0, xs, 0) from rfl) rfl hz24 (by omega) (by omega) (fun v25 ev25 => ?_)
    clear hz24
    refine pz_if_eq (off := 7) (t := 1613) (by decide +kernel) (by decide) rfl rfl (fun h26 => ?_) (fun h26 => ?_)
    · skip
      refine pe_iconstv (n := 0) (v := 0) (by decide +kernel) (by decide +kernel) ?_
      show pmE pg (pg_X xs) pg_tyl pg_cl 41 318 1614 [.retAddr 0, .ref 0, .ref 147, .int x3] [.int 0, .int v23, .int v21, .int v19, .int v17, .ref 147] (md (cc f13 A14 R15) g B) _
      refine pz_callV (j := 131) (mj := 298) (by decide +kernel) (cll_V (args := [.int 0, .int v23, .int v21, .int v19, .int v17]) (n := 5) (by decide +kernel) rfl rfl (md_o cc_len) (by decide +kernel) (Nat.le_of_ble_eq_true rfl) (Nat.le_of_ble_eq_true rfl)) (MM_298 cc_len hM) (fun q27a q27b q27c q27d hqq27 => ?_)
      obtain ⟨g28, B29, rq27, eq27, hIq27, hGq27, hFq27, kq27⟩ := hqq27
      cases eq27
      refine ⟨rfl, rfl, ?_⟩
      show pmE pg (pg_X xs) pg_tyl pg_cl 41 318 1617 [.retAddr 0, .ref 0, .ref 147, .int x3] [.int rq27] (cd f13 A14 R15 (em g28 B29)) _
      refine pe_pop (by decide +kernel) rfl ?_
      refine pe_goto (off := 858) (t := 2476) (by decide +kernel) (by decide) rfl ?_
      exact kk _ _ _ _ _ ⟨hIq12, hIq27, (RL4_fr hIq12 hIq27 (fun n hn => hGq12 n (tn hn (by decide)) (tn hn (by decide))) (fun n hn => hFq12 n (tn hn (by decide)) (tn hn (by decide)) (tn hn (by decide))) (hFq27 148 (by decide) (by decide)) (hFq27 149 (by decide) (by decide)) hR)⟩
    · skip
      refine pe_iconstv (n := 1) (v := 1) (by decide +kernel) (by decide +kernel) ?_
      refine pe_goto (off := 4) (t := 1614) (by decide +kernel) (by decide) rfl ?_
      show pmE pg (pg_X xs) pg_tyl pg_cl 41 318 1614 [.retAddr 0, .ref 0, .ref 147, .int x3] [.int 1, .int v23, .int v21, .int v19, .int v17, .ref 147] (md (cc f13 A14 R15) g B) _
      refine pz_callV (j := 131) (mj := 298) (by decide +kernel) (cll_V (args := [.int 1, .int v23, .int v21, .int v19, .int v17]) (n := 5) (by decide +kernel) rfl rfl (md_o cc_len) (by decide +kernel) (Nat.le_of_ble_eq_true rfl) (Nat.le_of_ble_eq_true rfl)) (MM_298 cc_len hM) (fun q30a q30b q30c q30d hqq30 => ?_)
      obtain ⟨g31, B32, rq30, eq30, hIq30, hGq30, hFq30, kq30⟩ := hqq30
      cases eq30
      refine ⟨rfl, rfl, ?_⟩
      show pmE pg (pg_X xs) pg_tyl pg_cl 41 318 1617 [.retAddr 0, .ref 0, .ref 147, .int x3] [.int rq30] (cd f13 A14 R15 (em g31 B32)) _
      refine pe_pop (by decide +kernel) rfl ?_
      refine pe_goto (off := 858) (t := 2476) (by decide +kernel) (by decide) rfl ?_
      exact kk _ _ _ _ _ ⟨hIq12, hIq30, (RL4_fr hIq12 hIq30 (fun n hn => hGq12 n (tn hn (by decide)) (tn hn (by decide))) (fun n hn => hFq12 n (tn hn (by decide)) (tn hn (by decide)) (tn hn (by decide))) (hFq30 148 (by decide) (by decide)) (hFq30 149 (by decide) (by decide)) hR)⟩
  · skip
    refine pe_iconstv (n := 1) (v := 1) (by decide +kernel) (by decide +kernel) ?_
    refine pe_goto (off := 4) (t := 1576) (by decide +kernel) (by decide) rfl ?_
    refine pz_callV (j := 127) (mj := 121) (by decide +kernel) (cll_V (args := [.int 1, .int v8, .int v6, .int v4, .int v2]) (n := 5) (by decide +kernel) rfl rfl cd_o0 (by decide +kernel) (Nat.le_of_ble_eq_true rfl) (Nat.le_of_ble_eq_true rfl)) (CM_121 st_XO hC) (fun q33a q33b q33c q33d hqq33 => ?_)
    obtain ⟨f34, A35, R36, rq33, eq33, hIq33, hGq33, hFq33, hHq33, kq33⟩ := hqq33
    cases eq33
    refine ⟨rfl, rfl, ?_⟩
    show pmE pg (pg_X xs) pg_tyl pg_cl 41 318 1579 [.retAddr 0, .ref 0, .ref 147, .int x3] [.int rq33] (cd f34 A35 R36 (em g B)) _
    refine pe_pop (by decide +kernel) rfl ?_
    refine pe_aload_n (j := 2) (by decide +kernel) rfl ?_
    refine pe_aloadX_n (j := 0) (by decide +kernel) rfl ?_
    refine pe_iload_n (j := 3) (by decide +kernel) rfl ?_
    refine pe_iconstv (n := 1) (v := 1) (by decide +kernel) (by decide +kernel) ?_
    refine pz_add (by decide +kernel) rfl kz_1 (by omega) (by omega) (fun z37 hz37 => ?_)
    refine pz_ialdX (n := xs.length) (by decide +kernel) (show pg_X xs 0 = some (0, xs, 0) from rfl) rfl hz37 (by omega) (by omega) (fun v38 ev38 => ?_)
    clear hz37
    refine pe_aloadX_n (j := 0) (by decide +kernel) rfl ?_
    refine pe_iload_n (j := 3) (by decide +kernel) rfl ?_
    refine pe_iconstv (n := 2) (v := 2) (by decide +kernel) (by decide +kernel) ?_
    refine pz_add (by decide +kernel) rfl kz_2 (by omega) (by omega) (fun z39 hz39 => ?_)
    refine pz_ialdX (n := xs.length) (by decide +kernel) (show pg_X xs 0 = some (0, xs, 0) from rfl) rfl hz39 (by omega) (by omega) (fun v40 ev40 => ?_)
    clear hz39
    refine pe_aloadX_n (j := 0) (by decide +kernel) rfl ?_
    refine pe_iload_n (j := 3) (by decide +kernel) rfl ?_
    refine pe_iconstv (n := 3) (v := 3) (by decide +kernel) (by decide +kernel) ?_
    refine pz_add (by decide +kernel) rfl kz_3 (by omega) (by omega) (fun z41 hz41 => ?_)
    refine pz_ialdX (n := xs.length) (by decide +kernel) (show pg_X xs 0 = some (0, xs, 0) from rfl) rfl hz41 (by omega) (by omega) (fun v42 ev42 => ?_)
    clear hz41
    refine pe_aloadX_n (j := 0) (by decide +kernel) rfl ?_
    refine pe_iload_n (j := 3) (by decide +kernel) rfl ?_
    refine pe_iconstv (n := 4) (v := 4) (by decide +kernel) (by decide +kernel) ?_
    refine pz_add (by decide +kernel) rfl kz_4 (by omega) (by omega) (fun z43 hz43 => ?_)
    refine pz_ialdX (n := xs.length) (by decide +kernel) (show pg_X xs 0 = some (0, xs, 0) from rfl) rfl hz43 (by omega) (by omega) (fun v44 ev44 => ?_)
    clear hz43
    refine pe_aloadX_n (j := 0) (by decide +kernel) rfl ?_
    refine pe_iload_n (j := 3) (by decide +kernel) rfl ?_
    refine pe_iconstv (n := 5) (v := 5) (by decide +kernel) (by decide +kernel) ?_
    refine pz_add (by decide +kernel) rfl kz_5 (by omega) (by omega) (fun z45 hz45 => ?_)
    refine pz_ialdX (n := xs.length) (by decide +kernel) (show pg_X xs 0 = some (0, xs, 0) from rfl) rfl hz45 (by omega) (by omega) (fun v46 ev46 => ?_)
    clear hz45
    refine pz_if_eq (off := 7) (t := 1613) (by decide +kernel) (by decide) rfl rfl (fun h47 => ?_) (fun h47 => ?_)
    · skip
      refine pe_iconstv (n := 0) (v := 0) (by decide +kernel) (by decide +kernel) ?_
      show pmE pg (pg_X xs) pg_tyl pg_cl 41 318 1614 [.retAddr 0, .ref 0, .ref 147, .int x3] [.int 0, .int v44, .int v42, .int v40, .int v38, .ref 147] (md (cc f34 A35 R36) g B) _
      refine pz_callV (j := 131) (mj := 298) (by decide +kernel) (cll_V (args := [.int 0, .int v44, .int v42, .int v40, .int v38]) (n := 5) (by decide +kernel) rfl rfl (md_o cc_len) (by decide +kernel) (Nat.le_of_ble_eq_true rfl) (Nat.le_of_ble_eq_true rfl)) (MM_298 cc_len hM) (fun q48a q48b q48c q48d hqq48 => ?_)
      obtain ⟨g49, B50, rq48, eq48, hIq48, hGq48, hFq48, kq48⟩ := hqq48
      cases eq48
      refine ⟨rfl, rfl, ?_⟩
      show pmE pg (pg_X xs) pg_tyl pg_cl 41 318 1617 [.retAddr 0, .ref 0, .ref 147, .int x3] [.int rq48] (cd f34 A35 R36 (em g49 B50)) _
      refine pe_pop (by decide +kernel) rfl ?_
      refine pe_goto (off := 858) (t := 2476) (by decide +kernel) (by decide) rfl ?_
      exact kk _ _ _ _ _ ⟨hIq33, hIq48, (RL4_fr hIq33 hIq48 (fun n hn => hGq33 n (tn hn (by decide)) (tn hn (by decide))) (fun n hn => hFq33 n (tn hn (by decide)) (tn hn (by decide)) (tn hn (by decide))) (hFq48 148 (by decide) (by decide)) (hFq48 149 (by decide) (by decide)) hR)⟩
    · skip
      refine pe_iconstv (n := 1) (v := 1) (by decide +kernel) (by decide +kernel) ?_
      refine pe_goto (off := 4) (t := 1614) (by decide +kernel) (by decide) rfl ?_
      show pmE pg (pg_X xs) pg_tyl pg_cl 41 318 1614 [.retAddr 0, .ref 0, .ref 147, .int x3] [.int 1, .int v44, .int v42, .int v40, .int v38, .ref 147] (md (cc f34 A35 R36) g B) _
      refine pz_callV (j := 131) (mj := 298) (by decide +kernel) (cll_V (args := [.int 1, .int v44, .int v42, .int v40, .int v38]) (n := 5) (by decide +kernel) rfl rfl (md_o cc_len) (by decide +kernel) (Nat.le_of_ble_eq_true rfl) (Nat.le_of_ble_eq_true rfl)) (MM_298 cc_len hM) (fun q51a q51b q51c q51d hqq51 => ?_)
      obtain ⟨g52, B53, rq51, eq51, hIq51, hGq51, hFq51, kq51⟩ := hqq51
      cases eq51
      refine ⟨rfl, rfl, ?_⟩
      show pmE pg (pg_X xs) pg_tyl pg_cl 41 318 1617 [.retAddr 0, .ref 0, .ref 147, .int x3] [.int rq51] (cd f34 A35 R36 (em g52 B53)) _
      refine pe_pop (by decide +kernel) rfl ?_
      refine pe_goto (off := 858) (t := 2476) (by decide +kernel) (by decide) rfl ?_
      exact kk _ _ _ _ _ ⟨hIq33, hIq51, (RL4_fr hIq33 hIq51 (fun n hn => hGq33 n (tn hn (by decide)) (tn hn (by decide))) (fun n hn => hFq33 n (tn hn (by decide)) (tn hn (by decide)) (tn hn (by decide))) (hFq51 148 (by decide) (by decide)) (hFq51 149 (by decide) (by decide)) hR)⟩
set_option maxRecDepth 100000 in
set_option maxHeartbeats 8000000 in
theorem LC_27 {xs : List Int32} {Q : pm_R → Prop} {f : Nat → Int32} {A : Nat → List Int32} {R : Nat → Value} {g : Nat → Int32} {B : Nat → List Int32} {x3 : Int32} (h3 : 0 ≤ x3.toInt) (h4 : x3.toInt + 7 ≤ xs.length) (hl : xs.length ≤ 3584) (hS : ST f A R g B) (kk : ∀ (f' : Nat → Int32) (A' : Nat → List Int32) (R' : Nat → Value) (g' : Nat → Int32) (B' : Nat → List Int32), ST f' A' R' g' B' → pmE pg (pg_X xs) pg_tyl pg_cl 41 318 2476 [.retAddr 0, .ref 0, .ref 147, .int x3] [] (cd f' A' R' (em g' B')) Q) : pmE pg (pg_X xs) pg_tyl pg_cl 41 318 1621 [.retAddr 0, .ref 0, .ref 147, .int x3] [] (cd f A R (em g B)) Q := by
  obtain ⟨hC, hM, hR⟩ := hS
  refine pe_aload_n (j := 1) (by decide +kernel) rfl ?_
  refine pe_aloadX_n (j := 0) (by decide +kernel) rfl ?_
  refine pe_iload_n (j := 3) (by decide +kernel) rfl ?_
  refine pe_iconstv (n := 1) (v := 1) (by decide +kernel) (by decide +kernel) ?_
  refine pz_add (by decide +kernel) rfl kz_1 (by omega) (by omega) (fun z1 hz1 => ?_)
  refine pz_ialdX (n := xs.length) (by decide +kernel) (show pg_X xs 0 = some (0, xs, 0) from rfl) rfl hz1 (by omega) (by omega) (fun v2 ev2 => ?_)
  clear hz1
  refine pe_aloadX_n (j := 0) (by decide +kernel) rfl ?_
  refine pe_iload_n (j := 3) (by decide +kernel) rfl ?_
  refine pe_iconstv (n := 2) (v := 2) (by decide +kernel) (by decide +kernel) ?_
  refine pz_add (by decide +kernel) rfl kz_2 (by omega) (by omega) (fun z3 hz3 => ?_)
  refine pz_ialdX (n := xs.length) (by decide +kernel) (show pg_X xs 0 = some (0, xs, 0) from rfl) rfl hz3 (by omega) (by omega) (fun v4 ev4 => ?_)
  clear hz3
  refine pe_aloadX_n (j := 0) (by decide +kernel) rfl ?_
  refine pe_iload_n (j := 3) (by decide +kernel) rfl ?_
  refine pe_iconstv (n := 3) (v := 3) (by decide +kernel) (by decide +kernel) ?_
  refine pz_add (by decide +kernel) rfl kz_3 (by omega) (by omega) (fun z5 hz5 => ?_)
  refine pz_ialdX (n := xs.length) (by decide +kernel) (show pg_X xs 0 = some (0, xs, 0) from rfl) rfl hz5 (by omega) (by omega) (fun v6 ev6 => ?_)
  clear hz5
  refine pe_aloadX_n (j := 0) (by decide +kernel) rfl ?_
  refine pe_iload_n (j := 3) (by decide +kernel) rfl ?_
  refine pe_iconstv (n := 4) (v := 4) (by decide +kernel) (by decide +kernel) ?_
  refine pz_add (by decide +kernel) rfl kz_4 (by omega) (by omega) (fun z7 hz7 => ?_)
  refine pz_ialdX (n := xs.length) (by decide +kernel) (show pg_X xs 0 = some (0, xs, 0) from rfl) rfl hz7 (by omega) (by omega) (fun v8 ev8 => ?_)
  clear hz7
  refine pe_aloadX_n (j := 0) (by decide +kernel) rfl ?_
  refine pe_iload_n (j := 3) (by decide +kernel) rfl ?_
  refine pe_iconstv (n := 5) (v := 5) (by decide +kernel) (by decide +kernel) ?_
  refine pz_add (by decide +kernel) rfl kz_5 (by omega) (by omega) (fun z9 hz9 => ?_)
  refine pz_ialdX (n := xs.length) (by decide +kernel) (show pg_X xs 0 = some (0, xs, 0) from rfl) rfl hz9 (by omega) (by omega) (fun v10 ev10 => ?_)
  clear hz9
  refine pz_callV (j := 132) (mj := 145) (by decide +kernel) (cll_V (args := [.int v10, .int v8, .int v6, .int v4, .int v2]) (n := 5) (by decide +kernel) rfl rfl cd_o0 (by decide +kernel) (Nat.le_of_ble_eq_true rfl) (Nat.le_of_ble_eq_true rfl)) (CM_145 st_XO hC) (fun q11a q11b q11c q11d hqq11 => ?_)
  obtain ⟨f12, A13, R14, rq11, eq11, hIq11, hGq11, hFq11, hHq11, kq11⟩ := hqq11
  cases eq11
  refine ⟨rfl, rfl, ?_⟩
  show pmE pg (pg_X xs) pg_tyl pg_cl 41 318 1650 [.retAddr 0, .ref 0, .ref 147, .int x3] [.int rq11] (cd f12 A13 R14 (em g B)) _
  refine pe_pop (by decide +kernel) rfl ?_
  refine pe_aload_n (j := 2) (by decide +kernel) rfl ?_
  refine pe_aloadX_n (j := 0) (by decide +kernel) rfl ?_
  refine pe_iload_n (j := 3) (by decide +kernel) rfl ?_
  refine pe_iconstv (n := 1) (v := 1) (by decide +kernel) (by decide +kernel) ?_
  refine pz_add (by decide +kernel) rfl kz_1 (by omega) (by omega) (fun z15 hz15 => ?_)
  refine pz_ialdX (n := xs.length) (by decide +kernel) (show pg_X xs 0 = some (0, xs, 0) from rfl) rfl hz15 (by omega) (by omega) (fun v16 ev16 => ?_)
  clear hz15
  refine pe_aloadX_n (j := 0) (by decide +kernel) rfl ?_
  refine pe_iload_n (j := 3) (by decide +kernel) rfl ?_
  refine pe_iconstv (n := 2) (v := 2) (by decide +kernel) (by decide +kernel) ?_
  refine pz_add (by decide +kernel) rfl kz_2 (by omega) (by omega) (fun z17 hz17 => ?_)
  refine pz_ialdX (n := xs.length) (by decide +kernel) (show pg_X xs 0 = some (0, xs, 0) from rfl) rfl hz17 (by omega) (by omega) (fun v18 ev18 => ?_)
  clear hz17
  refine pe_aloadX_n (j := 0) (by decide +kernel) rfl ?_
  refine pe_iload_n (j := 3) (by decide +kernel) rfl ?_
  refine pe_iconstv (n := 3) (v := 3) (by decide +kernel) (by decide +kernel) ?_
  refine pz_add (by decide +kernel) rfl kz_3 (by omega) (by omega) (fun z19 hz19 => ?_)
  refine pz_ialdX (n := xs.length) (by decide +kernel) (show pg_X xs 0 = some (0, xs, 0) from rfl) rfl hz19 (by omega) (by omega) (fun v20 ev20 => ?_)
  clear hz19
  refine pe_aloadX_n (j := 0) (by decide +kernel) rfl ?_
  refine pe_iload_n (j := 3) (by decide +kernel) rfl ?_
  refine pe_iconstv (n := 4) (v := 4) (by decide +kernel) (by decide +kernel) ?_
  refine pz_add (by decide +kernel) rfl kz_4 (by omega) (by omega) (fun z21 hz21 => ?_)
  refine pz_ialdX (n := xs.length) (by decide +kernel) (show pg_X xs 0 = some (0, xs, 0) from rfl) rfl hz21 (by omega) (by omega) (fun v22 ev22 => ?_)
  clear hz21
  refine pe_aloadX_n (j := 0) (by decide +kernel) rfl ?_
  refine pe_iload_n (j := 3) (by decide +kernel) rfl ?_
  refine pe_iconstv (n := 5) (v := 5) (by decide +kernel) (by decide +kernel) ?_
  refine pz_add (by decide +kernel) rfl kz_5 (by omega) (by omega) (fun z23 hz23 => ?_)
  refine pz_ialdX (n := xs.length) (by decide +kernel) (show pg_X xs 0 = some (0, xs, 0) from rfl) rfl hz23 (by omega) (by omega) (fun v24 ev24 => ?_)
  clear hz23
  show pmE pg (pg_X xs) pg_tyl pg_cl 41 318 1677 [.retAddr 0, .ref 0, .ref 147, .int x3] [.int v24, .int v22, .int v20, .int v18, .int v16, .ref 147] (md (cc f12 A13 R14) g B) _
  refine pz_callV (j := 135) (mj := 273) (by decide +kernel) (cll_V (args := [.int v24, .int v22, .int v20, .int v18, .int v16]) (n := 5) (by decide +kernel) rfl rfl (md_o cc_len) (by decide +kernel) (Nat.le_of_ble_eq_true rfl) (Nat.le_of_ble_eq_true rfl)) (MM_273 cc_len hM) (fun q25a q25b q25c q25d hqq25 => ?_)
  obtain ⟨g26, B27, rq25, eq25, hIq25, hGq25, hFq25, kq25⟩ := hqq25
  cases eq25
  refine ⟨rfl, rfl, ?_⟩
  show pmE pg (pg_X xs) pg_tyl pg_cl 41 318 1680 [.retAddr 0, .ref 0, .ref 147, .int x3] [.int rq25] (cd f12 A13 R14 (em g26 B27)) _
  refine pe_pop (by decide +kernel) rfl ?_
  refine pe_goto (off := 795) (t := 2476) (by decide +kernel) (by decide) rfl ?_
  exact kk _ _ _ _ _ ⟨hIq11, hIq25, (RL4_fr hIq11 hIq25 (fun n hn => hGq11 n (tn hn (by decide)) (tn hn (by decide)) (tn hn (by decide)) (tn hn (by decide)) (tn hn (by decide)) (tn hn (by decide))) (fun n hn => hFq11 n (tn hn (by decide)) (tn hn (by decide)) (tn hn (by decide)) (tn hn (by decide)) (tn hn (by decide)) (tn hn (by decide))) (hFq25 148 (by decide) (by decide) (by decide) (by decide)) (hFq25 149 (by decide) (by decide) (by decide) (by decide)) hR)⟩
set_option maxRecDepth 100000 in
set_option maxHeartbeats 8000000 in
theorem LC_28 {xs : List Int32} {Q : pm_R → Prop} {f : Nat → Int32} {A : Nat → List Int32} {R : Nat → Value} {g : Nat → Int32} {B : Nat → List Int32} {x3 : Int32} (h3 : 0 ≤ x3.toInt) (h4 : x3.toInt + 7 ≤ xs.length) (hl : xs.length ≤ 3584) (hS : ST f A R g B) (kk : ∀ (f' : Nat → Int32) (A' : Nat → List Int32) (R' : Nat → Value) (g' : Nat → Int32) (B' : Nat → List Int32), ST f' A' R' g' B' → pmE pg (pg_X xs) pg_tyl pg_cl 41 318 2476 [.retAddr 0, .ref 0, .ref 147, .int x3] [] (cd f' A' R' (em g' B')) Q) : pmE pg (pg_X xs) pg_tyl pg_cl 41 318 1684 [.retAddr 0, .ref 0, .ref 147, .int x3] [] (cd f A R (em g B)) Q := by
  obtain ⟨hC, hM, hR⟩ := hS
  refine pe_aload_n (j := 1) (by decide +kernel) rfl ?_
  refine pe_aloadX_n (j := 0) (by decide +kernel) rfl ?_
  refine pe_iload_n (j := 3) (by decide +kernel) rfl ?_
  refine pe_iconstv (n := 1) (v := 1) (by decide +kernel) (by decide +kernel) ?_
  refine pz_add (by decide +kernel) rfl kz_1 (by omega) (by omega) (fun z1 hz1 => ?_)
  refine pz_ialdX (n := xs.length) (by decide +kernel) (show pg_X xs 0 = some (0, xs, 0) from rfl) rfl hz1 (by omega) (by omega) (fun v2 ev2 => ?_)
  clear hz1
  refine pe_aloadX_n (j := 0) (by decide +kernel) rfl ?_
  refine pe_iload_n (j := 3) (by decide +kernel) rfl ?_
  refine pe_iconstv (n := 2) (v := 2) (by decide +kernel) (by decide +kernel) ?_
  refine pz_add (by decide +kernel) rfl kz_2 (by omega) (by omega) (fun z3 hz3 => ?_)
  refine pz_ialdX (n := xs.length) (by decide +kernel) (show pg_X xs 0 = some (0, xs, 0) from rfl) rfl hz3 (by omega) (by omega) (fun v4 ev4 => ?_)
  clear hz3
  refine pe_aloadX_n (j := 0) (by decide +kernel) rfl ?_
  refine pe_iload_n (j := 3) (by decide +kernel) rfl ?_
  refine pe_iconstv (n := 3) (v := 3) (by decide +kernel) (by decide +kernel) ?_
  refine pz_add (by decide +kernel) rfl kz_3 (by omega) (by omega) (fun z5 hz5 => ?_)
  refine pz_ialdX (n := xs.length) (by decide +kernel) (show pg_X xs 0 = some (0, xs, 0) from rfl) rfl hz5 (by omega) (by omega) (fun v6 ev6 => ?_)
  clear hz5
  refine pe_aloadX_n (j := 0) (by decide +kernel) rfl ?_
  refine pe_iload_n (j := 3) (by decide +kernel) rfl ?_
  refine pe_iconstv (n := 4) (v := 4) (by decide +kernel) (by decide +kernel) ?_
  refine pz_add (by decide +kernel) rfl kz_4 (by omega) (by omega) (fun z7 hz7 => ?_)
  refine pz_ialdX (n := xs.length) (by decide +kernel) (show pg_X xs 0 = some (0, xs, 0) from rfl) rfl hz7 (by omega) (by omega) (fun v8 ev8 => ?_)
  clear hz7
  refine pe_aloadX_n (j := 0) (by decide +kernel) rfl ?_
  refine pe_iload_n (j := 3) (by decide +kernel) rfl ?_
  refine pe_iconstv (n := 5) (v := 5) (by decide +kernel) (by decide +kernel) ?_
  refine pz_add (by decide +kernel) rfl kz_5 (by omega) (by omega) (fun z9 hz9 => ?_)
  refine pz_ialdX (n := xs.length) (by decide +kernel) (show pg_X xs 0 = some (0, xs, 0) from rfl) rfl hz9 (by omega) (by omega) (fun v10 ev10 => ?_)
  clear hz9
  refine pe_aloadX_n (j := 0) (by decide +kernel) rfl ?_
  refine pe_iload_n (j := 3) (by decide +kernel) rfl ?_
  refine pe_bipushv (n := 6) (v := 6) (by decide +kernel) (by decide +kernel) ?_
  refine pz_add (by decide +kernel) rfl kz_6 (by omega) (by omega) (fun z11 hz11 => ?_)
  refine pz_ialdX (n := xs.length) (by decide +kernel) (show pg_X xs 0 = some (0, xs, 0) from rfl) rfl hz11 (by omega) (by omega) (fun v12 ev12 => ?_)
  clear hz11
  refine pz_callV (j := 136) (mj := 148) (by decide +kernel) (cll_V (args := [.int v12, .int v10, .int v8, .int v6, .int v4, .int v2]) (n := 6) (by decide +kernel) rfl rfl cd_o0 (by decide +kernel) (Nat.le_of_ble_eq_true rfl) (Nat.le_of_ble_eq_true rfl)) (CM_148 st_XO hC) (fun q13a q13b q13c q13d hqq13 => ?_)
  obtain ⟨f14, A15, R16, rq13, eq13, hIq13, hGq13, hFq13, hHq13, kq13⟩ := hqq13
  cases eq13
  refine ⟨rfl, rfl, ?_⟩
  show pmE pg (pg_X xs) pg_tyl pg_cl 41 318 1719 [.retAddr 0, .ref 0, .ref 147, .int x3] [.int rq13] (cd f14 A15 R16 (em g B)) _
  refine pe_pop (by decide +kernel) rfl ?_
  refine pe_aload_n (j := 2) (by decide +kernel) rfl ?_
  refine pe_aloadX_n (j := 0) (by decide +kernel) rfl ?_
  refine pe_iload_n (j := 3) (by decide +kernel) rfl ?_
  refine pe_iconstv (n := 1) (v := 1) (by decide +kernel) (by decide +kernel) ?_
  refine pz_add (by decide +kernel) rfl kz_1 (by omega) (by omega) (fun z17 hz17 => ?_)
  refine pz_ialdX (n := xs.length) (by decide +kernel) (show pg_X xs 0 = some (0, xs, 0) from rfl) rfl hz17 (by omega) (by omega) (fun v18 ev18 => ?_)
  clear hz17
  refine pe_aloadX_n (j := 0) (by decide +kernel) rfl ?_
  refine pe_iload_n (j := 3) (by decide +kernel) rfl ?_
  refine pe_iconstv (n := 2) (v := 2) (by decide +kernel) (by decide +kernel) ?_
  refine pz_add (by decide +kernel) rfl kz_2 (by omega) (by omega) (fun z19 hz19 => ?_)
  refine pz_ialdX (n := xs.length) (by decide +kernel) (show pg_X xs 0 = some (0, xs, 0) from rfl) rfl hz19 (by omega) (by omega) (fun v20 ev20 => ?_)
  clear hz19
  refine pe_aloadX_n (j := 0) (by decide +kernel) rfl ?_
  refine pe_iload_n (j := 3) (by decide +kernel) rfl ?_
  refine pe_iconstv (n := 3) (v := 3) (by decide +kernel) (by decide +kernel) ?_
  refine pz_add (by decide +kernel) rfl kz_3 (by omega) (by omega) (fun z21 hz21 => ?_)
  refine pz_ialdX (n := xs.length) (by decide +kernel) (show pg_X xs 0 = some (0, xs, 0) from rfl) rfl hz21 (by omega) (by omega) (fun v22 ev22 => ?_)
  clear hz21
  refine pe_aloadX_n (j := 0) (by decide +kernel) rfl ?_
  refine pe_iload_n (j := 3) (by decide +kernel) rfl ?_
  refine pe_iconstv (n := 4) (v := 4) (by decide +kernel) (by decide +kernel) ?_
  refine pz_add (by decide +kernel) rfl kz_4 (by omega) (by omega) (fun z23 hz23 => ?_)
  refine pz_ialdX (n := xs.length) (by decide +kernel) (show pg_X xs 0 = some (0, xs, 0) from rfl) rfl hz23 (by omega) (by omega) (fun v24 ev24 => ?_)
  clear hz23
  refine pe_aloadX_n (j := 0) (by decide +kernel) rfl ?_
  refine pe_iload_n (j := 3) (by decide +kernel) rfl ?_
  refine pe_iconstv (n := 5) (v := 5) (by decide +kernel) (by decide +kernel) ?_
  refine pz_add (by decide +kernel) rfl kz_5 (by omega) (by omega) (fun z25 hz25 => ?_)
  refine pz_ialdX (n := xs.length) (by decide +kernel) (show pg_X xs 0 = some (0, xs, 0) from rfl) rfl hz25 (by omega) (by omega) (fun v26 ev26 => ?_)
  clear hz25
  refine pe_aloadX_n (j := 0) (by decide +kernel) rfl ?_
  refine pe_iload_n (j := 3) (by decide +kernel) rfl ?_
  refine pe_bipushv (n := 6) (v := 6) (by decide +kernel) (by decide +kernel) ?_
  refine pz_add (by decide +kernel) rfl kz_6 (by omega) (by omega) (fun z27 hz27 => ?_)
  refine pz_ialdX (n := xs.length) (by decide +kernel) (show pg_X xs 0 = some (0, xs, 0) from rfl) rfl hz27 (by omega) (by omega) (fun v28 ev28 => ?_)
  clear hz27
  show pmE pg (pg_X xs) pg_tyl pg_cl 41 318 1752 [.retAddr 0, .ref 0, .ref 147, .int x3] [.int v28, .int v26, .int v24, .int v22, .int v20, .int v18, .ref 147] (md (cc f14 A15 R16) g B) _
  refine pz_callV (j := 139) (mj := 300) (by decide +kernel) (cll_V (args := [.int v28, .int v26, .int v24, .int v22, .int v20, .int v18]) (n := 6) (by decide +kernel) rfl rfl (md_o cc_len) (by decide +kernel) (Nat.le_of_ble_eq_true rfl) (Nat.le_of_ble_eq_true rfl)) (MM_300 cc_len hM) (fun q29a q29b q29c q29d hqq29 => ?_)
  obtain ⟨g30, B31, rq29, eq29, hIq29, hGq29, hFq29, kq29⟩ := hqq29
  cases eq29
  refine ⟨rfl, rfl, ?_⟩
  show pmE pg (pg_X xs) pg_tyl pg_cl 41 318 1755 [.retAddr 0, .ref 0, .ref 147, .int x3] [.int rq29] (cd f14 A15 R16 (em g30 B31)) _
  refine pe_pop (by decide +kernel) rfl ?_
  refine pe_goto (off := 720) (t := 2476) (by decide +kernel) (by decide) rfl ?_
  exact kk _ _ _ _ _ ⟨hIq13, hIq29, (RL4_fr hIq13 hIq29 (fun n hn => hGq13 n (tn hn (by decide)) (tn hn (by decide))) (fun n hn => hFq13 n (tn hn (by decide)) (tn hn (by decide)) (tn hn (by decide))) (hFq29 148 (by decide) (by decide)) (hFq29 149 (by decide) (by decide)) hR)⟩
