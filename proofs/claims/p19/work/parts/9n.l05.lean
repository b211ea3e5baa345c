section
set_option maxRecDepth 100000 in
set_option maxHeartbeats 8000000 in
theorem LC_29 {xs : List Int32} {Q : pm_R → Prop} {f : Nat → Int32} {A : Nat → List Int32} {R : Nat → Value} {g : Nat → Int32} {B : Nat → List Int32} {x3 : Int32} (h3 : 0 ≤ x3.toInt) (h4 : x3.toInt + 7 ≤ xs.length) (hl : xs.length ≤ 3584) (hS : ST f A R g B) (kk : ∀ (f' : Nat → Int32) (A' : Nat → List Int32) (R' : Nat → Value) (g' : Nat → Int32) (B' : Nat → List Int32), ST f' A' R' g' B' → pmE pg (pg_X xs) pg_tyl pg_cl 41 318 2477 [.retAddr 0, .ref 0, .ref 147, .int x3] [] (cd f' A' R' (em g' B')) Q) : pmE pg (pg_X xs) pg_tyl pg_cl 41 318 1760 [.retAddr 0, .ref 0, .ref 147, .int x3] [] (cd f A R (em g B)) Q := by
  obtain ⟨hC, hM, hR⟩ := hS
  refine pe_aload_n (j := 1) (by decide +kernel) rfl ?_
  refine pe_aloadX_n (j := 0) (by decide +kernel) rfl ?_
  refine pe_iload_n (j := 3) (by decide +kernel) rfl ?_
  refine pe_iconstv (n := 1) (v := 1) (by decide +kernel) (by decide +kernel) ?_
  refine pz_add (by decide +kernel) rfl kz_1 (by omega) (by omega) (fun z1 hz1 => ?_)
  refine pz_ialdX (n := xs.length) (by decide +kernel) (show pg_X xs 0 = some (0, xs, 0) from rfl) rfl hz1 (by omega) (by omega) (fun v2 ev2 => ?_)
  clear hz1
  refine pe_aloadX_n (j := 0) (by decide +kernel) rfl ?_
  refine pe_iload_n (j := 3) (by decide +kernel) rfl ?_
  refine pe_iconstv (n := 2) (v := 2) (by decide +kernel) (by decide +kernel) ?_
  refine pz_add (by decide +kernel) rfl kz_2 (by omega) (by omega) (fun z3 hz3 => ?_)
  refine pz_ialdX (n := xs.length) (by decide +kernel) (show pg_X xs 0 = some (0, xs, 0) from rfl) rfl hz3 (by omega) (by omega) (fun v4 ev4 => ?_)
  clear hz3
  refine pe_aloadX_n (j := 0) (by decide +kernel) rfl ?_
  refine pe_iload_n (j := 3) (by decide +kernel) rfl ?_
  refine pe_iconstv (n := 3) (v := 3) (by decide +kernel) (by decide +kernel) ?_
  refine pz_add (by decide +kernel) rfl kz_3 (by omega) (by omega) (fun z5 hz5 => ?_)
  refine pz_ialdX (n := xs.length) (by decide +kernel) (show pg_X xs 0 = some (0, xs, 0) from rfl) rfl hz5 (by omega) (by omega) (fun v6 ev6 => ?_)
  clear hz5
  refine pe_aloadX_n (j := 0) (by decide +kernel) rfl ?_
  refine pe_iload_n (j := 3) (by decide +kernel) rfl ?_
  refine pe_iconstv (n := 4) (v := 4) (by decide +kernel) (by decide +kernel) ?_
  refine pz_add (by decide +kernel) rfl kz_4 (by omega) (by omega) (fun z7 hz7 => ?_)
  refine pz_ialdX (n := xs.length) (by decide +kernel) (show pg_X xs 0 = some (0, xs, 0) from rfl) rfl hz7 (by omega) (by omega) (fun v8 ev8 => ?_)
  clear hz7
  refine pe_aloadX_n (j := 0) (by decide +kernel) rfl ?_
  refine pe_iload_n (j := 3) (by decide +kernel) rfl ?_
  refine pe_iconstv (n := 5) (v := 5) (by decide +kernel) (by decide +kernel) ?_
  refine pz_add (by decide +kernel) rfl kz_5 (by omega) (by omega) (fun z9 hz9 => ?_)
  refine pz_ialdX (n := xs.length) (by decide +kernel) (show pg_X xs 0 = some (0, xs, 0) from rfl) rfl hz9 (by omega) (by omega) (fun v10 ev10 => ?_)
  clear hz9
  refine pe_aloadX_n (j := 0) (by decide +kernel) rfl ?_
  refine pe_iload_n (j := 3) (by decide +kernel) rfl ?_
  refine pe_bipushv (n := 6) (v := 6) (by decide +kernel) (by decide +kernel) ?_
  refine pz_add (by decide +kernel) rfl kz_6 (by omega) (by omega) (fun z11 hz11 => ?_)
  refine pz_ialdX (n := xs.length) (by decide +kernel) (show pg_X xs 0 = some (0, xs, 0) from rfl) rfl hz11 (by omega) (by omega) (fun v12 ev12 => ?_)
  clear hz11
  refine pz_callV (j := 140) (mj := 150) (by decide +kernel) (cll_V (args := [.int v12, .int v10, .int v8, .int v6, .int v4, .int v2]) (n := 6) (by decide +kernel) rfl rfl cd_o0 (by decide +kernel) (Nat.le_of_ble_eq_true rfl) (Nat.le_of_ble_eq_true rfl)) (CM_150 st_XO hC) (fun q13a q13b q13c q13d hqq13 => ?_)
  obtain ⟨f14, A15, R16, rq13, eq13, hIq13, hGq13, hFq13, hHq13, kq13⟩ := hqq13
  cases eq13
  refine ⟨rfl, rfl, ?_⟩
  show pmE pg (pg_X xs) pg_tyl pg_cl 41 318 1795 [.retAddr 0, .ref 0, .ref 147, .int x3] [.int rq13] (cd f14 A15 R16 (em g B)) _
  refine pe_pop (by decide +kernel) rfl ?_
  refine pe_aload_n (j := 2) (by decide +kernel) rfl ?_
  refine pe_aloadX_n (j := 0) (by decide +kernel) rfl ?_
  refine pe_iload_n (j := 3) (by decide +kernel) rfl ?_
  refine pe_iconstv (n := 1) (v := 1) (by decide +kernel) (by decide +kernel) ?_
  refine pz_add (by decide +kernel) rfl kz_1 (by omega) (by omega) (fun z17 hz17 => ?_)
  refine pz_ialdX (n := xs.length) (by decide +kernel) (show pg_X xs 0 = some (0, xs, 0) from rfl) rfl hz17 (by omega) (by omega) (fun v18 ev18 => ?_)
  clear hz17
  refine pe_aloadX_n (j := 0) (by decide +kernel) rfl ?_
  refine pe_iload_n (j := 3) (by decide +kernel) rfl ?_
  refine pe_iconstv (n := 2) (v := 2) (by decide +kernel) (by decide +kernel) ?_
  refine pz_add (by decide +kernel) rfl kz_2 (by omega) (by omega) (fun z19 hz19 => ?_)
  refine pz_ialdX (n := xs.length) (by decide +kernel) (show pg_X xs 0 = some (0, xs, 0) from rfl) rfl hz19 (by omega) (by omega) (fun v20 ev20 => ?_)
  clear hz19
  refine pe_aloadX_n (j := 0) (by decide +kernel) rfl ?_
  refine pe_iload_n (j := 3) (by decide +kernel) rfl ?_
  refine pe_iconstv (n := 3) (v := 3) (by decide +kernel) (by decide +kernel) ?_
  refine pz_add (by decide +kernel) rfl kz_3 (by omega) (by omega) (fun z21 hz21 => ?_)
  refine pz_ialdX (n := xs.length) (by decide +kernel) (show pg_X xs 0 = some (0, xs, 0) from rfl) rfl hz21 (by omega) (by omega) (fun v22 ev22 => ?_)
  clear hz21
  refine pe_aloadX_n (j := 0) (by decide +kernel) rfl ?_
  refine pe_iload_n (j := 3) (by decide +kernel) rfl ?_
  refine pe_iconstv (n := 4) (v := 4) (by decide +kernel) (by decide +kernel) ?_
  refine pz_add (by decide +kernel) rfl kz_4 (by omega) (by omega) (fun z23 hz23 => ?_)
  refine pz_ialdX (n := xs.length) (by decide +kernel) (show pg_X xs 0 = some (0, xs, 0) from rfl) rfl hz23 (by omega) (by omega) (fun v24 ev24 => ?_)
  clear hz23
  refine pe_aloadX_n (j := 0) (by decide +kernel) rfl ?_
  refine pe_iload_n (j := 3) (by decide +kernel) rfl ?_
  refine pe_iconstv (n := 5) (v := 5) (by decide +kernel) (by decide +kernel) ?_
  refine pz_add (by decide +kernel) rfl kz_5 (by omega) (by omega) (fun z25 hz25 => ?_)
  refine pz_ialdX (n := xs.length) (by decide +kernel) (show pg_X xs 0 = some (0, xs, 0) from rfl) rfl hz25 (by omega) (by omega) (fun v26 ev26 => ?_)
  clear hz25
  refine pe_aloadX_n (j := 0) (by decide +kernel) rfl ?_
  refine pe_iload_n (j := 3) (by decide +kernel) rfl ?_
  refine pe_bipushv (n := 6) (v := 6) (by decide +kernel) (by decide +kernel) ?_
  refine pz_add (by decide +kernel) rfl kz_6 (by omega) (by omega) (fun z27 hz27 => ?_)
  refine pz_ialdX (n := xs.length) (by decide +kernel) (show pg_X xs 0 = some (0, xs, 0) from rfl) rfl hz27 (by omega) (by omega) (fun v28 ev28 => ?_)
  clear hz27
  show pmE pg (pg_X xs) pg_tyl pg_cl 41 318 1828 [.retAddr 0, .ref 0, .ref 147, .int x3] [.int v28, .int v26, .int v24, .int v22, .int v20, .int v18, .ref 147] (md (cc f14 A15 R16) g B) _
  refine pz_callV (j := 143) (mj := 301) (by decide +kernel) (cll_V (args := [.int v28, .int v26, .int v24, .int v22, .int v20, .int v18]) (n := 6) (by decide +kernel) rfl rfl (md_o cc_len) (by decide +kernel) (Nat.le_of_ble_eq_true rfl) (Nat.le_of_ble_eq_true rfl)) (MM_301 cc_len hM) (fun q29a q29b q29c q29d hqq29 => ?_)
  obtain ⟨g30, B31, rq29, eq29, hIq29, hGq29, hFq29, kq29⟩ := hqq29
  cases eq29
  refine ⟨rfl, rfl, ?_⟩
  show pmE pg (pg_X xs) pg_tyl pg_cl 41 318 1831 [.retAddr 0, .ref 0, .ref 147, .int x3] [.int rq29] (cd f14 A15 R16 (em g30 B31)) _
  refine pe_pop (by decide +kernel) rfl ?_
  refine pe_goto (off := 645) (t := 2477) (by decide +kernel) (by decide) rfl ?_
  exact kk _ _ _ _ _ ⟨hIq13, hIq29, (RL5_t (hGq29 31 (by decide) (by decide) (by decide)) (hGq29 32 (by decide) (by decide) (by decide)) (RL4_fr hIq13 hIq29 (fun n hn => hGq13 n (tn hn (by decide)) (tn hn (by decide)) (tn hn (by decide))) (fun n hn => hFq13 n (tn hn (by decide)) (tn hn (by decide)) (tn hn (by decide)) (tn hn (by decide))) (hFq29 148 (by decide) (by decide) (by decide)) (hFq29 149 (by decide) (by decide) (by decide)) hR.1) hR)⟩
set_option maxRecDepth 100000 in
set_option maxHeartbeats 8000000 in
theorem LC_30 {xs : List Int32} {Q : pm_R → Prop} {f : Nat → Int32} {A : Nat → List Int32} {R : Nat → Value} {g : Nat → Int32} {B : Nat → List Int32} {x3 : Int32} (h3 : 0 ≤ x3.toInt) (h4 : x3.toInt + 7 ≤ xs.length) (hl : xs.length ≤ 3584) (hS : ST f A R g B) (kk : ∀ (f' : Nat → Int32) (A' : Nat → List Int32) (R' : Nat → Value) (g' : Nat → Int32) (B' : Nat → List Int32), ST f' A' R' g' B' → pmE pg (pg_X xs) pg_tyl pg_cl 41 318 2477 [.retAddr 0, .ref 0, .ref 147, .int x3] [] (cd f' A' R' (em g' B')) Q) : pmE pg (pg_X xs) pg_tyl pg_cl 41 318 1835 [.retAddr 0, .ref 0, .ref 147, .int x3] [] (cd f A R (em g B)) Q := by
  obtain ⟨hC, hM, hR⟩ := hS
  refine pe_aload_n (j := 1) (by decide +kernel) rfl ?_
  refine pe_aloadX_n (j := 0) (by decide +kernel) rfl ?_
  refine pe_iload_n (j := 3) (by decide +kernel) rfl ?_
  refine pe_iconstv (n := 1) (v := 1) (by decide +kernel) (by decide +kernel) ?_
  refine pz_add (by decide +kernel) rfl kz_1 (by omega) (by omega) (fun z1 hz1 => ?_)
  refine pz_ialdX (n := xs.length) (by decide +kernel) (show pg_X xs 0 = some (0, xs, 0) from rfl) rfl hz1 (by omega) (by omega) (fun v2 ev2 => ?_)
  clear hz1
  refine pe_aloadX_n (j := 0) (by decide +kernel) rfl ?_
  refine pe_iload_n (j := 3) (by decide +kernel) rfl ?_
  refine pe_iconstv (n := 2) (v := 2) (by decide +kernel) (by decide +kernel) ?_
  refine pz_add (by decide +kernel) rfl kz_2 (by omega) (by omega) (fun z3 hz3 => ?_)
  refine pz_ialdX (n := xs.length) (by decide +kernel) (show pg_X xs 0 = some (0, xs, 0) from rfl) rfl hz3 (by omega) (by omega) (fun v4 ev4 => ?_)
  clear hz3
  refine pe_aloadX_n (j := 0) (by decide +kernel) rfl ?_
  refine pe_iload_n (j := 3) (by decide +kernel) rfl ?_
  refine pe_iconstv (n := 3) (v := 3) (by decide +kernel) (by decide +kernel) ?_
  refine pz_add (by decide +kernel) rfl kz_3 (by omega) (by omega) (fun z5 hz5 => ?_)
  refine pz_ialdX (n := xs.length) (by decide +kernel) (show pg_X xs 0 = some (0, xs, 0) from rfl) rfl hz5 (by omega) (by omega) (fun v6 ev6 => ?_)
  clear hz5
  refine pe_aloadX_n (j := 0) (by decide +kernel) rfl ?_
  refine pe_iload_n (j := 3) (by decide +kernel) rfl ?_
  refine pe_iconstv (n := 4) (v := 4) (by decide +kernel) (by decide +kernel) ?_
  refine pz_add (by decide +kernel) rfl kz_4 (by omega) (by omega) (fun z7 hz7 => ?_)
  refine pz_ialdX (n := xs.length) (by decide +kernel) (show pg_X xs 0 = some (0, xs, 0) from rfl) rfl hz7 (by omega) (by omega) (fun v8 ev8 => ?_)
  clear hz7
  refine pe_aloadX_n (j := 0) (by decide +kernel) rfl ?_
  refine pe_iload_n (j := 3) (by decide +kernel) rfl ?_
  refine pe_iconstv (n := 5) (v := 5) (by decide +kernel) (by decide +kernel) ?_
  refine pz_add (by decide +kernel) rfl kz_5 (by omega) (by omega) (fun z9 hz9 => ?_)
  refine pz_ialdX (n := xs.length) (by decide +kernel) (show pg_X xs 0 = some (0, xs, 0) from rfl) rfl hz9 (by omega) (by omega) (fun v10 ev10 => ?_)
  clear hz9
  refine pe_aloadX_n (j := 0) (by decide +kernel) rfl ?_
  refine pe_iload_n (j := 3) (by decide +kernel) rfl ?_
  refine pe_bipushv (n := 6) (v := 6) (by decide +kernel) (by decide +kernel) ?_
  refine pz_add (by decide +kernel) rfl kz_6 (by omega) (by omega) (fun z11 hz11 => ?_)
  refine pz_ialdX (n := xs.length) (by decide +kernel) (show pg_X xs 0 = some (0, xs, 0) from rfl) rfl hz11 (by omega) (by omega) (fun v12 ev12 => ?_)
  clear hz11
  refine pz_callV (j := 144) (mj := 126) (by decide +kernel) (cll_V (args := [.int v12, .int v10, .int v8, .int v6, .int v4, .int v2]) (n := 6) (by decide +kernel) rfl rfl cd_o0 (by decide +kernel) (Nat.le_of_ble_eq_true rfl) (Nat.le_of_ble_eq_true rfl)) (CM_126 st_XO hC) (fun q13a q13b q13c q13d hqq13 => ?_)
  obtain ⟨f14, A15, R16, rq13, eq13, hIq13, hGq13, hFq13, hHq13, kq13⟩ := hqq13
  cases eq13
  refine ⟨rfl, rfl, ?_⟩
  show pmE pg (pg_X xs) pg_tyl pg_cl 41 318 1870 [.retAddr 0, .ref 0, .ref 147, .int x3] [.int rq13] (cd f14 A15 R16 (em g B)) _
  refine pe_pop (by decide +kernel) rfl ?_
  refine pe_aload_n (j := 2) (by decide +kernel) rfl ?_
  refine pe_aloadX_n (j := 0) (by decide +kernel) rfl ?_
  refine pe_iload_n (j := 3) (by decide +kernel) rfl ?_
  refine pe_iconstv (n := 1) (v := 1) (by decide +kernel) (by decide +kernel) ?_
  refine pz_add (by decide +kernel) rfl kz_1 (by omega) (by omega) (fun z17 hz17 => ?_)
  refine pz_ialdX (n := xs.length) (by decide +kernel) (show pg_X xs 0 = some (0, xs, 0) from rfl) rfl hz17 (by omega) (by omega) (fun v18 ev18 => ?_)
  clear hz17
  refine pe_aloadX_n (j := 0) (by decide +kernel) rfl ?_
  refine pe_iload_n (j := 3) (by decide +kernel) rfl ?_
  refine pe_iconstv (n := 2) (v := 2) (by decide +kernel) (by decide +kernel) ?_
  refine pz_add (by decide +kernel) rfl kz_2 (by omega) (by omega) (fun z19 hz19 => ?_)
  refine pz_ialdX (n := xs.length) (by decide +kernel) (show pg_X xs 0 = some (0, xs, 0) from rfl) rfl hz19 (by omega) (by omega) (fun v20 ev20 => ?_)
  clear hz19
  refine pe_aloadX_n (j := 0) (by decide +kernel) rfl ?_
  refine pe_iload_n (j := 3) (by decide +kernel) rfl ?_
  refine pe_iconstv (n := 3) (v := 3) (by decide +kernel) (by decide +kernel) ?_
  refine pz_add (by decide +kernel) rfl kz_3 (by omega) (by omega) (fun z21 hz21 => ?_)
  refine pz_ialdX (n := xs.length) (by decide +kernel) (show pg_X xs 0 = some (0, xs, 0) from rfl) rfl hz21 (by omega) (by omega) (fun v22 ev22 => ?_)
  clear hz21
  refine pe_aloadX_n (j := 0) (by decide +kernel) rfl ?_
  refine pe_iload_n (j := 3) (by decide +kernel) rfl ?_
  refine pe_iconstv (n := 4) (v := 4) (by decide +kernel) (by decide +kernel) ?_
  refine pz_add (by decide +kernel) rfl kz_4 (by omega) (by omega) (fun z23 hz23 => ?_)
  refine pz_ialdX (n := xs.length) (by decide +kernel) (show pg_X xs 0 = some (0, xs, 0) from rfl) rfl hz23 (by omega) (by omega) (fun v24 ev24 => ?_)
  clear hz23
  refine pe_aloadX_n (j := 0) (by decide +kernel) rfl ?_
  refine pe_iload_n (j := 3) (by decide +kernel) rfl ?_
  refine pe_iconstv (n := 5) (v := 5) (by decide +kernel) (by decide +kernel) ?_
  refine pz_add (by decide +kernel) rfl kz_5 (by omega) (by omega) (fun z25 hz25 => ?_)
  refine pz_ialdX (n := xs.length) (by decide +kernel) (show pg_X xs 0 = some (0, xs, 0) from rfl) rfl hz25 (by omega) (by omega) (fun v26 ev26 => ?_)
  clear hz25
  refine pe_aloadX_n (j := 0) (by decide +kernel) rfl ?_
  refine pe_iload_n (j := 3) (by decide +kernel) rfl ?_
  refine pe_bipushv (n := 6) (v := 6) (by decide +kernel) (by decide +kernel) ?_
  refine pz_add (by decide +kernel) rfl kz_6 (by omega) (by omega) (fun z27 hz27 => ?_)
  refine pz_ialdX (n := xs.length) (by decide +kernel) (show pg_X xs 0 = some (0, xs, 0) from rfl) rfl hz27 (by omega) (by omega) (fun v28 ev28 => ?_)
  clear hz27
  show pmE pg (pg_X xs) pg_tyl pg_cl 41 318 1903 [.retAddr 0, .ref 0, .ref 147, .int x3] [.int v28, .int v26, .int v24, .int v22, .int v20, .int v18, .ref 147] (md (cc f14 A15 R16) g B) _
  refine pz_callV (j := 147) (mj := 302) (by decide +kernel) (cll_V (args := [.int v28, .int v26, .int v24, .int v22, .int v20, .int v18]) (n := 6) (by decide +kernel) rfl rfl (md_o cc_len) (by decide +kernel) (Nat.le_of_ble_eq_true rfl) (Nat.le_of_ble_eq_true rfl)) (MM_302 cc_len hM) (fun q29a q29b q29c q29d hqq29 => ?_)
  obtain ⟨g30, B31, rq29, eq29, hIq29, hGq29, hFq29, kq29⟩ := hqq29
  cases eq29
  refine ⟨rfl, rfl, ?_⟩
  show pmE pg (pg_X xs) pg_tyl pg_cl 41 318 1906 [.retAddr 0, .ref 0, .ref 147, .int x3] [.int rq29] (cd f14 A15 R16 (em g30 B31)) _
  refine pe_pop (by decide +kernel) rfl ?_
  refine pe_goto (off := 570) (t := 2477) (by decide +kernel) (by decide) rfl ?_
  exact kk _ _ _ _ _ ⟨hIq13, hIq29, (RL5_t (hGq29 31 (by decide) (by decide) (by decide) (by decide)) (hGq29 32 (by decide) (by decide) (by decide) (by decide)) (RL4_fr hIq13 hIq29 (fun n hn => hGq13 n (tn hn (by decide)) (tn hn (by decide)) (tn hn (by decide)) (tn hn (by decide)) (tn hn (by decide))) (fun n hn => hFq13 n (tn hn (by decide)) (tn hn (by decide)) (tn hn (by decide))) (hFq29 148 (by decide) (by decide)) (hFq29 149 (by decide) (by decide)) hR.1) hR)⟩
set_option maxRecDepth 100000 in
set_option maxHeartbeats 8000000 in
theorem LC_31 {xs : List Int32} {Q : pm_R → Prop} {f : Nat → Int32} {A : Nat → List Int32} {R : Nat → Value} {g : Nat → Int32} {B : Nat → List Int32} {x3 : Int32} (h3 : 0 ≤ x3.toInt) (h4 : x3.toInt + 7 ≤ xs.length) (hl : xs.length ≤ 3584) (hS : ST f A R g B) (kk : ∀ (f' : Nat → Int32) (A' : Nat → List Int32) (R' : Nat → Value) (g' : Nat → Int32) (B' : Nat → List Int32), ST f' A' R' g' B' → pmE pg (pg_X xs) pg_tyl pg_cl 41 318 2477 [.retAddr 0, .ref 0, .ref 147, .int x3] [] (cd f' A' R' (em g' B')) Q) : pmE pg (pg_X xs) pg_tyl pg_cl 41 318 1910 [.retAddr 0, .ref 0, .ref 147, .int x3] [] (cd f A R (em g B)) Q := by
  obtain ⟨hC, hM, hR⟩ := hS
  refine pe_aload_n (j := 1) (by decide +kernel) rfl ?_
  refine pe_aloadX_n (j := 0) (by decide +kernel) rfl ?_
  refine pe_iload_n (j := 3) (by decide +kernel) rfl ?_
  refine pe_iconstv (n := 1) (v := 1) (by decide +kernel) (by decide +kernel) ?_
  refine pz_add (by decide +kernel) rfl kz_1 (by omega) (by omega) (fun z1 hz1 => ?_)
  refine pz_ialdX (n := xs.length) (by decide +kernel) (show pg_X xs 0 = some (0, xs, 0) from rfl) rfl hz1 (by omega) (by omega) (fun v2 ev2 => ?_)
  clear hz1
  refine pe_aloadX_n (j := 0) (by decide +kernel) rfl ?_
  refine pe_iload_n (j := 3) (by decide +kernel) rfl ?_
  refine pe_iconstv (n := 2) (v := 2) (by decide +kernel) (by decide +kernel) ?_
  refine pz_add (by decide +kernel) rfl kz_2 (by omega) (by omega) (fun z3 hz3 => ?_)
  refine pz_ialdX (n := xs.length) (by decide +kernel) (show pg_X xs 0 = some (0, xs, 0) from rfl) rfl hz3 (by omega) (by omega) (fun v4 ev4 => ?_)
  clear hz3
  refine pe_aloadX_n (j := 0) (by decide +kernel) rfl ?_
  refine pe_iload_n (j := 3) (by decide +kernel) rfl ?_
  refine pe_iconstv (n := 3) (v := 3) (by decide +kernel) (by decide +kernel) ?_
  refine pz_add (by decide +kernel) rfl kz_3 (by omega) (by omega) (fun z5 hz5 => ?_)
  refine pz_ialdX (n := xs.length) (by decide +kernel) (show pg_X xs 0 = some (0, xs, 0) from rfl) rfl hz5 (by omega) (by omega) (fun v6 ev6 => ?_)
  clear hz5
  refine pe_aloadX_n (j := 0) (by decide +kernel) rfl ?_
  refine pe_iload_n (j := 3) (by decide +kernel) rfl ?_
  refine pe_iconstv (n := 4) (v := 4) (by decide +kernel) (by decide +kernel) ?_
  refine pz_add (by decide +kernel) rfl kz_4 (by omega) (by omega) (fun z7 hz7 => ?_)
  refine pz_ialdX (n := xs.length) (by decide +kernel) (show pg_X xs 0 = some (0, xs, 0) from rfl) rfl hz7 (by omega) (by omega) (fun v8 ev8 => ?_)
  clear hz7
  refine pe_aloadX_n (j := 0) (by decide +kernel) rfl ?_
  refine pe_iload_n (j := 3) (by decide +kernel) rfl ?_
  refine pe_iconstv (n := 5) (v := 5) (by decide +kernel) (by decide +kernel) ?_
  refine pz_add (by decide +kernel) rfl kz_5 (by omega) (by omega) (fun z9 hz9 => ?_)
  refine pz_ialdX (n := xs.length) (by decide +kernel) (show pg_X xs 0 = some (0, xs, 0) from rfl) rfl hz9 (by omega) (by omega) (fun v10 ev10 => ?_)
  clear hz9
  refine pz_callV (j := 148) (mj := 155) (by decide +kernel) (cll_V (args := [.int v10, .int v8, .int v6, .int v4, .int v2]) (n := 5) (by decide +kernel) rfl rfl cd_o0 (by decide +kernel) (Nat.le_of_ble_eq_true rfl) (Nat.le_of_ble_eq_true rfl)) (CM_155 st_XO hC) (fun q11a q11b q11c q11d hqq11 => ?_)
  obtain ⟨f12, A13, R14, rq11, eq11, hIq11, hGq11, hFq11, hHq11, kq11⟩ := hqq11
  cases eq11
  refine ⟨rfl, rfl, ?_⟩
  show pmE pg (pg_X xs) pg_tyl pg_cl 41 318 1939 [.retAddr 0, .ref 0, .ref 147, .int x3] [.int rq11] (cd f12 A13 R14 (em g B)) _
  refine pe_pop (by decide +kernel) rfl ?_
  refine pe_aload_n (j := 2) (by decide +kernel) rfl ?_
  refine pe_aloadX_n (j := 0) (by decide +kernel) rfl ?_
  refine pe_iload_n (j := 3) (by decide +kernel) rfl ?_
  refine pe_iconstv (n := 1) (v := 1) (by decide +kernel) (by decide +kernel) ?_
  refine pz_add (by decide +kernel) rfl kz_1 (by omega) (by omega) (fun z15 hz15 => ?_)
  refine pz_ialdX (n := xs.length) (by decide +kernel) (show pg_X xs 0 = some (0, xs, 0) from rfl) rfl hz15 (by omega) (by omega) (fun v16 ev16 => ?_)
  clear hz15
  refine pe_aloadX_n (j := 0) (by decide +kernel) rfl ?_
  refine pe_iload_n (j := 3) (by decide +kernel) rfl ?_
  refine pe_iconstv (n := 2) (v := 2) (by decide +kernel) (by decide +kernel) ?_
  refine pz_add (by decide +kernel) rfl kz_2 (by omega) (by omega) (fun z17 hz17 => ?_)
  refine pz_ialdX (n := xs.length) (by decide +kernel) (show pg_X xs 0 = some (0, xs, 0) from rfl) rfl hz17 (by omega) (by omega) (fun v18 ev18 => ?_)
  clear hz17
  refine pe_aloadX_n (j := 0) (by decide +kernel) rfl ?_
  refine pe_iload_n (j := 3) (by decide +kernel) rfl ?_
  refine pe_iconstv (n := 3) (v := 3) (by decide +kernel) (by decide +kernel) ?_
  refine pz_add (by decide +kernel) rfl kz_3 (by omega) (by omega) (fun z19 hz19 => ?_)
  refine pz_ialdX (n := xs.length) (by decide +kernel) (show pg_X xs 0 = some (0, xs, 0) from rfl) rfl hz19 (by omega) (by omega) (fun v20 ev20 => ?_)
  clear hz19
  refine pe_aloadX_n (j := 0) (by decide +kernel) rfl ?_
  refine pe_iload_n (j := 3) (by decide +kernel) rfl ?_
  refine pe_iconstv (n := 4) (v := 4) (by decide +kernel) (by decide +kernel) ?_
  refine pz_add (by decide +kernel) rfl kz_4 (by omega) (by omega) (fun z21 hz21 => ?_)
  refine pz_ialdX (n := xs.length) (by decide +kernel) (show pg_X xs 0 = some (0, xs, 0) from rfl) rfl hz21 (by omega) (by omega) (fun v22 ev22 => ?_)
  clear hz21
  refine pe_aloadX_n (j := 0) (by decide +kernel) rfl ?_
  refine pe_iload_n (j := 3) (by decide +kernel) rfl ?_
  refine pe_iconstv (n := 5) (v := 5) (by decide +kernel) (by decide +kernel) ?_
  refine pz_add (by decide +kernel) rfl kz_5 (by omega) (by omega) (fun z23 hz23 => ?_)
  refine pz_ialdX (n := xs.length) (by decide +kernel) (show pg_X xs 0 = some (0, xs, 0) from rfl) rfl hz23 (by omega) (by omega) (fun v24 ev24 => ?_)
  clear hz23
  show pmE pg (pg_X xs) pg_tyl pg_cl 41 318 1966 [.retAddr 0, .ref 0, .ref 147, .int x3] [.int v24, .int v22, .int v20, .int v18, .int v16, .ref 147] (md (cc f12 A13 R14) g B) _
  refine pz_callV (j := 151) (mj := 304) (by decide +kernel) (cll_V (args := [.int v24, .int v22, .int v20, .int v18, .int v16]) (n := 5) (by decide +kernel) rfl rfl (md_o cc_len) (by decide +kernel) (Nat.le_of_ble_eq_true rfl) (Nat.le_of_ble_eq_true rfl)) (MM_304 cc_len hM) (fun q25a q25b q25c q25d hqq25 => ?_)
  obtain ⟨g26, B27, rq25, eq25, hIq25, hGq25, hFq25, kq25⟩ := hqq25
  cases eq25
  refine ⟨rfl, rfl, ?_⟩
  show pmE pg (pg_X xs) pg_tyl pg_cl 41 318 1969 [.retAddr 0, .ref 0, .ref 147, .int x3] [.int rq25] (cd f12 A13 R14 (em g26 B27)) _
  refine pe_pop (by decide +kernel) rfl ?_
  refine pe_goto (off := 507) (t := 2477) (by decide +kernel) (by decide) rfl ?_
  exact kk _ _ _ _ _ ⟨hIq11, hIq25, (RL5_t (hGq25 31 (by decide) (by decide) (by decide) (by decide) (by decide) (by decide)) (hGq25 32 (by decide) (by decide) (by decide) (by decide) (by decide) (by decide)) (RL4_fr hIq11 hIq25 (fun n hn => hGq11 n (tn hn (by decide)) (tn hn (by decide)) (tn hn (by decide)) (tn hn (by decide)) (tn hn (by decide)) (tn hn (by decide)) (tn hn (by decide)) (tn hn (by decide))) (fun n hn => hFq11 n (tn hn (by decide)) (tn hn (by decide)) (tn hn (by decide)) (tn hn (by decide)) (tn hn (by decide)) (tn hn (by decide)) (tn hn (by decide))) (hFq25 148 (by decide) (by decide) (by decide) (by decide) (by decide)) (hFq25 149 (by decide) (by decide) (by decide) (by decide) (by decide)) hR.1) hR)⟩
set_option maxRecDepth 100000 in
set_option maxHeartbeats 8000000 in
theorem LC_32 {xs : List Int32} {Q : pm_R → Prop} {f : Nat → Int32} {A : Nat → List Int32} {R : Nat → Value} {g : Nat → Int32} {B : Nat → List Int32} {x3 : Int32} (h3 : 0 ≤ x3.toInt) (h4 : x3.toInt + 7 ≤ xs.length) (hl : xs.length ≤ 3584) (hS : ST f A R g B) (kk : ∀ (f' : Nat → Int32) (A' : Nat → List Int32) (R' : Nat → Value) (g' : Nat → Int32) (B' : Nat → List Int32), ST f' A' R' g' B' → pmE pg (pg_X xs) pg_tyl pg_cl 41 318 2477 [.retAddr 0, .ref 0, .ref 147, .int x3] [] (cd f' A' R' (em g' B')) Q) : pmE pg (pg_X xs) pg_tyl pg_cl 41 318 1973 [.retAddr 0, .ref 0, .ref 147, .int x3] [] (cd f A R (em g B)) Q := by
  obtain ⟨hC, hM, hR⟩ := hS
  refine pe_aload_n (j := 1) (by decide +kernel) rfl ?_
  refine pe_aloadX_n (j := 0) (by decide +kernel) rfl ?_
  refine pe_iload_n (j := 3) (by decide +kernel) rfl ?_
  refine pe_iconstv (n := 1) (v := 1) (by decide +kernel) (by decide +kernel) ?_
  refine pz_add (by decide +kernel) rfl kz_1 (by omega) (by omega) (fun z1 hz1 => ?_)
  refine pz_ialdX (n := xs.length) (by decide +kernel) (show pg_X xs 0 = some (0, xs, 0) from rfl) rfl hz1 (by omega) (by omega) (fun v2 ev2 => ?_)
  clear hz1
  refine pe_aloadX_n (j := 0) (by decide +kernel) rfl ?_
  refine pe_iload_n (j := 3) (by decide +kernel) rfl ?_
  refine pe_iconstv (n := 2) (v := 2) (by decide +kernel) (by decide +kernel) ?_
  refine pz_add (by decide +kernel) rfl kz_2 (by omega) (by omega) (fun z3 hz3 => ?_)
  refine pz_ialdX (n := xs.length) (by decide +kernel) (show pg_X xs 0 = some (0, xs, 0) from rfl) rfl hz3 (by omega) (by omega) (fun v4 ev4 => ?_)
  clear hz3
  refine pe_aloadX_n (j := 0) (by decide +kernel) rfl ?_
  refine pe_iload_n (j := 3) (by decide +kernel) rfl ?_
  refine pe_iconstv (n := 3) (v := 3) (by decide +kernel) (by decide +kernel) ?_
  refine pz_add (by decide +kernel) rfl kz_3 (by omega) (by omega) (fun z5 hz5 => ?_)
  refine pz_ialdX (n := xs.length) (by decide +kernel) (show pg_X xs 0 = some (0, xs, 0) from rfl) rfl hz5 (by omega) (by omega) (fun v6 ev6 => ?_)
  clear hz5
  refine pz_callV (j := 152) (mj := 186) (by decide +kernel) (cll_V (args := [.int v6, .int v4, .int v2]) (n := 3) (by decide +kernel) rfl rfl cd_o0 (by decide +kernel) (Nat.le_of_ble_eq_true rfl) (Nat.le_of_ble_eq_true rfl)) (CM_186 st_XO hC) (fun q7a q7b q7c q7d hqq7 => ?_)
  obtain ⟨f8, A9, R10, rq7, eq7, hIq7, hGq7, hFq7, hHq7, kq7⟩ := hqq7
  cases eq7
  refine ⟨rfl, rfl, ?_⟩
  show pmE pg (pg_X xs) pg_tyl pg_cl 41 318 1992 [.retAddr 0, .ref 0, .ref 147, .int x3] [.int rq7] (cd f8 A9 R10 (em g B)) _
  refine pe_pop (by decide +kernel) rfl ?_
  refine pe_aload_n (j := 2) (by decide +kernel) rfl ?_
  refine pe_aloadX_n (j := 0) (by decide +kernel) rfl ?_
  refine pe_iload_n (j := 3) (by decide +kernel) rfl ?_
  refine pe_iconstv (n := 1) (v := 1) (by decide +kernel) (by decide +kernel) ?_
  refine pz_add (by decide +kernel) rfl kz_1 (by omega) (by omega) (fun z11 hz11 => ?_)
  refine pz_ialdX (n := xs.length) (by decide +kernel) (show pg_X xs 0 = some (0, xs, 0) from rfl) rfl hz11 (by omega) (by omega) (fun v12 ev12 => ?_)
  clear hz11
  refine pe_aloadX_n (j := 0) (by decide +kernel) rfl ?_
  refine pe_iload_n (j := 3) (by decide +kernel) rfl ?_
  refine pe_iconstv (n := 2) (v := 2) (by decide +kernel) (by decide +kernel) ?_
  refine pz_add (by decide +kernel) rfl kz_2 (by omega) (by omega) (fun z13 hz13 => ?_)
  refine pz_ialdX (n := xs.length) (by decide +kernel) (show pg_X xs 0 = some (0, xs, 0) from rfl) rfl hz13 (by omega) (by omega) (fun v14 ev14 => ?_)
  clear hz13
  refine pe_aloadX_n (j := 0) (by decide +kernel) rfl ?_
  refine pe_iload_n (j := 3) (by decide +kernel) rfl ?_
  refine pe_iconstv (n := 3) (v := 3) (by decide +kernel) (by decide +kernel) ?_
  refine pz_add (by decide +kernel) rfl kz_3 (by omega) (by omega) (fun z15 hz15 => ?_)
  refine pz_ialdX (n := xs.length) (by decide +kernel) (show pg_X xs 0 = some (0, xs, 0) from rfl) rfl hz15 (by omega) (by omega) (fun v16 ev16 => ?_)
  clear hz15
  show pmE pg (pg_X xs) pg_tyl pg_cl 41 318 2009 [.retAddr 0, .ref 0, .ref 147, .int x3] [.int v16, .int v14, .int v12, .ref 147] (md (cc f8 A9 R10) g B) _
  refine pz_callV (j := 155) (mj := 306) (by decide +kernel) (cll_V (args := [.int v16, .int v14, .int v12]) (n := 3) (by decide +kernel) rfl rfl (md_o cc_len) (by decide +kernel) (Nat.le_of_ble_eq_true rfl) (Nat.le_of_ble_eq_true rfl)) (NM_306 cc_len hM) (fun q17a q17b q17c q17d hqq17 => ?_)
  obtain ⟨g18, B19, rq17, eq17, hIq17, hGq17, hFq17, kq17⟩ := hqq17
  cases eq17
  refine ⟨rfl, rfl, ?_⟩
  show pmE pg (pg_X xs) pg_tyl pg_cl 41 318 2012 [.retAddr 0, .ref 0, .ref 147, .int x3] [.int rq17] (cd f8 A9 R10 (em g18 B19)) _
  refine pe_pop (by decide +kernel) rfl ?_
  refine pe_goto (off := 464) (t := 2477) (by decide +kernel) (by decide) rfl ?_
  exact kk _ _ _ _ _ ⟨hIq7, hIq17, (RL5_t (hGq17 31 (by decide) (by decide) (by decide) (by decide) (by decide) (by decide)) (hGq17 32 (by decide) (by decide) (by decide) (by decide) (by decide) (by decide)) (RL4_fr hIq7 hIq17 (fun n hn => hGq7 n (tn hn (by decide)) (tn hn (by decide)) (tn hn (by decide)) (tn hn (by decide)) (tn hn (by decide)) (tn hn (by decide)) (tn hn (by decide)) (tn hn (by decide)) (tn hn (by decide))) (fun n hn => hFq7 n (tn hn (by decide)) (tn hn (by decide)) (tn hn (by decide)) (tn hn (by decide)) (tn hn (by decide)) (tn hn (by decide)) (tn hn (by decide)) (tn hn (by decide)) (tn hn (by decide)) (tn hn (by decide)) (tn hn (by decide)) (tn hn (by decide)) (tn hn (by decide)) (tn hn (by decide))) (hFq17 148 (by decide) (by decide) (by decide) (by decide) (by decide) (by decide) (by decide) (by decide) (by decide) (by decide)) (hFq17 149 (by decide) (by decide) (by decide) (by decide) (by decide) (by decide) (by decide) (by decide) (by decide) (by decide)) hR.1) hR)⟩
set_option maxRecDepth 100000 in
set_option maxHeartbeats 8000000 in
theorem LC_33 {xs : List Int32} {Q : pm_R → Prop} {f : Nat → Int32} {A : Nat → List Int32} {R : Nat → Value} {g : Nat → Int32} {B : Nat → List Int32} {x3 : Int32} (h3 : 0 ≤ x3.toInt) (h4 : x3.toInt + 7 ≤ xs.length) (hl : xs.length ≤ 3584) (hS : ST f A R g B) (kk : ∀ (f' : Nat → Int32) (A' : Nat → List Int32) (R' : Nat → Value) (g' : Nat → Int32) (B' : Nat → List Int32), ST f' A' R' g' B' → pmE pg (pg_X xs) pg_tyl pg_cl 41 318 2477 [.retAddr 0, .ref 0, .ref 147, .int x3] [] (cd f' A' R' (em g' B')) Q) : pmE pg (pg_X xs) pg_tyl pg_cl 41 318 2016 [.retAddr 0, .ref 0, .ref 147, .int x3] [] (cd f A R (em g B)) Q := by
  obtain ⟨hC, hM, hR⟩ := hS
  refine pe_aload_n (j := 1) (by decide +kernel) rfl ?_
  refine pe_aloadX_n (j := 0) (by decide +kernel) rfl ?_
  refine pe_iload_n (j := 3) (by decide +kernel) rfl ?_
  refine pe_iconstv (n := 1) (v := 1) (by decide +kernel) (by decide +kernel) ?_
  refine pz_add (by decide +kernel) rfl kz_1 (by omega) (by omega) (fun z1 hz1 => ?_)
  refine pz_ialdX (n := xs.length) (by decide +kernel) (show pg_X xs 0 = some (0, xs, 0) from rfl) rfl hz1 (by omega) (by omega) (fun v2 ev2 => ?_)
  clear hz1
  refine pe_aloadX_n (j := 0) (by decide +kernel) rfl ?_
  refine pe_iload_n (j := 3) (by decide +kernel) rfl ?_
  refine pe_iconstv (n := 2) (v := 2) (by decide +kernel) (by decide +kernel) ?_
  refine pz_add (by decide +kernel) rfl kz_2 (by omega) (by omega) (fun z3 hz3 => ?_)
  refine pz_ialdX (n := xs.length) (by decide +kernel) (show pg_X xs 0 = some (0, xs, 0) from rfl) rfl hz3 (by omega) (by omega) (fun v4 ev4 => ?_)
  clear hz3
  refine pe_aloadX_n (j := 0) (by decide +kernel) rfl ?_
  refine pe_iload_n (j := 3) (by decide +kernel) rfl ?_
  refine pe_iconstv (n := 3) (v := 3) (by decide +kernel) (by decide +kernel) ?_
  refine pz_add (by decide +kernel) rfl kz_3 (by omega) (by omega) (fun z5 hz5 => ?_)
  refine pz_ialdX (n := xs.length) (by decide +kernel) (show pg_X xs 0 = some (0, xs, 0) from rfl) rfl hz5 (by omega) (by omega) (fun v6 ev6 => ?_)
  clear hz5
  refine pe_aloadX_n (j := 0) (by decide +kernel) rfl ?_
  refine pe_iload_n (j := 3) (by decide +kernel) rfl ?_
  refine pe_iconstv (n := 4) (v := 4) (by decide +kernel) (by decide +kernel) ?_
  refine pz_add (by decide +kernel) rfl kz_4 (by omega) (by omega) (fun z7 hz7 => ?_)
  refine pz_ialdX (n := xs.length) (by decide +kernel) (show pg_X xs 0 = some (0, xs, 0) from rfl) rfl hz7 (by omega) (by omega) (fun v8 ev8 => ?_)
  clear hz7
  refine pe_aloadX_n (j := 0) (by decide +kernel) rfl ?_
  refine pe_iload_n (j := 3) (by decide +kernel) rfl ?_
  refine pe_iconstv (n := 5) (v := 5) (by decide +kernel) (by decide +kernel) ?_
  refine pz_add (by decide +kernel) rfl kz_5 (by omega) (by omega) (fun z9 hz9 => ?_)
  refine pz_ialdX (n := xs.length) (by decide +kernel) (show pg_X xs 0 = some (0, xs, 0) from rfl) rfl hz9 (by omega) (by omega) (fun v10 ev10 => ?_)
  clear hz9
  refine pz_callV (j := 156) (mj := 187) (by decide +kernel) (cll_V (args := [.int v10, .int v8, .int v6, .int v4, .int v2]) (n := 5) (by decide +kernel) rfl rfl cd_o0 (by decide +kernel) (Nat.le_of_ble_eq_true rfl) (Nat.le_of_ble_eq_true rfl)) ((pmE_PS (CM_187 st_XO hC))) (fun q11a q11b q11c q11d hqq11 => ?_)
  obtain ⟨⟨f12, A13, R14, rq11, eq11, hIq11, hGq11, hFq11, hHq11, kq11⟩, kpq11⟩ := hqq11
  cases eq11
  refine ⟨rfl, rfl, ?_⟩
  show pmE pg (pg_X xs) pg_tyl pg_cl 41 318 2045 [.retAddr 0, .ref 0, .ref 147, .int x3] [.int rq11] (cd f12 A13 R14 (em g B)) _
  refine pe_pop (by decide +kernel) rfl ?_
  refine pe_aload_n (j := 2) (by decide +kernel) rfl ?_
  refine pe_aloadX_n (j := 0) (by decide +kernel) rfl ?_
  refine pe_iload_n (j := 3) (by decide +kernel) rfl ?_
  refine pe_iconstv (n := 1) (v := 1) (by decide +kernel) (by decide +kernel) ?_
  refine pz_add (by decide +kernel) rfl kz_1 (by omega) (by omega) (fun z15 hz15 => ?_)
  refine pz_ialdX (n := xs.length) (by decide +kernel) (show pg_X xs 0 = some (0, xs, 0) from rfl) rfl hz15 (by omega) (by omega) (fun v16 ev16 => ?_)
  clear hz15
  refine pe_aloadX_n (j := 0) (by decide +kernel) rfl ?_
  refine pe_iload_n (j := 3) (by decide +kernel) rfl ?_
  refine pe_iconstv (n := 2) (v := 2) (by decide +kernel) (by decide +kernel) ?_
  refine pz_add (by decide +kernel) rfl kz_2 (by omega) (by omega) (fun z17 hz17 => ?_)
  refine pz_ialdX (n := xs.length) (by decide +kernel) (show pg_X xs 0 = some (0, xs, 0) from rfl) rfl hz17 (by omega) (by omega) (fun v18 ev18 => ?_)
  clear hz17
  refine pe_aloadX_n (j := 0) (by decide +kernel) rfl ?_
  refine pe_iload_n (j := 3) (by decide +kernel) rfl ?_
  refine pe_iconstv (n := 3) (v := 3) (by decide +kernel) (by decide +kernel) ?_
  refine pz_add (by decide +kernel) rfl kz_3 (by omega) (by omega) (fun z19 hz19 => ?_)
  refine pz_ialdX (n := xs.length) (by decide +kernel) (show pg_X xs 0 = some (0, xs, 0) from rfl) rfl hz19 (by omega) (by omega) (fun v20 ev20 => ?_)
  clear hz19
  refine pe_aloadX_n (j := 0) (by decide +kernel) rfl ?_
  refine pe_iload_n (j := 3) (by decide +kernel) rfl ?_
  refine pe_iconstv (n := 4) (v := 4) (by decide +kernel) (by decide +kernel) ?_
  refine pz_add (by decide +kernel) rfl kz_4 (by omega) (by omega) (fun z21 hz21 => ?_)
  refine pz_ialdX (n := xs.length) (by decide +kernel) (show pg_X xs 0 = some (0, xs, 0) from rfl) rfl hz21 (by omega) (by omega) (fun v22 ev22 => ?_)
  clear hz21
  refine pe_aloadX_n (j := 0) (by decide +kernel) rfl ?_
  refine pe_iload_n (j := 3) (by decide +kernel) rfl ?_
  refine pe_iconstv (n := 5) (v := 5) (by decide +kernel) (by decide +kernel) ?_
  refine pz_add (by decide +kernel) rfl kz_5 (by omega) (by omega) (fun z23 hz23 => ?_)
  refine pz_ialdX (n := xs.length) (by decide +kernel) (show pg_X xs 0 = some (0, xs, 0) from rfl) rfl hz23 (by omega) (by omega) (fun v24 ev24 => ?_)
  clear hz23
  show pmE pg (pg_X xs) pg_tyl pg_cl 41 318 2072 [.retAddr 0, .ref 0, .ref 147, .int x3] [.int v24, .int v22, .int v20, .int v18, .int v16, .ref 147] (md (cc f12 A13 R14) g B) _
  refine pz_callV (j := 159) (mj := 307) (by decide +kernel) (cll_V (args := [.int v24, .int v22, .int v20, .int v18, .int v16]) (n := 5) (by decide +kernel) rfl rfl (md_o cc_len) (by decide +kernel) (Nat.le_of_ble_eq_true rfl) (Nat.le_of_ble_eq_true rfl)) ((pmE_PS (NM_307 cc_len hM))) (fun q25a q25b q25c q25d hqq25 => ?_)
  obtain ⟨⟨g26, B27, rq25, eq25, hIq25, hGq25, hFq25, kq25⟩, kpq25⟩ := hqq25
  cases eq25
  refine ⟨rfl, rfl, ?_⟩
  show pmE pg (pg_X xs) pg_tyl pg_cl 41 318 2075 [.retAddr 0, .ref 0, .ref 147, .int x3] [.int rq25] (cd f12 A13 R14 (em g26 B27)) _
  obtain ⟨kA, psA⟩ := kpq11
  obtain ⟨kB, psB⟩ := kpq25
  have psA : PS (pg_X xs) kA 187 0 [.ref 0, .int v2, .int v4, .int v6, .int v8, .int v10] [] (cd f A R (em g B)) (some (.int rq11)) (cd f12 A13 R14 (em g B)) := psA
  have psB : PS (pg_X xs) kB 307 0 [.ref 147, .int v16, .int v18, .int v20, .int v22, .int v24, pm_dead] [] (cd f12 A13 R14 (em g B)) (some (.int rq25)) (cd f12 A13 R14 (em g26 B27)) := psB
  rw [show v16 = v2 from ev16.trans ev2.symm] at psB
  rw [show v18 = v4 from ev18.trans ev4.symm] at psB
  rw [show v20 = v6 from ev20.trans ev6.symm] at psB
  rw [show v22 = v8 from ev22.trans ev8.symm] at psB
  rw [show v24 = v10 from ev24.trans ev10.symm] at psB
  obtain ⟨hre, hm1, hm2⟩ := RC_33 hR.1.1 hR.2.1 hR.2.2 psA psB
  refine pe_pop (by decide +kernel) rfl ?_
  refine pe_goto (off := 401) (t := 2477) (by decide +kernel) (by decide) rfl ?_
  exact kk _ _ _ _ _ ⟨hIq11, hIq25, ⟨(RL4_fr hIq11 hIq25 (fun n hn => hGq11 n (tn hn (by decide)) (tn hn (by decide)) (tn hn (by decide)) (tn hn (by decide))) (fun n hn => hFq11 n (tn hn (by decide)) (tn hn (by decide)) (tn hn (by decide)) (tn hn (by decide)) (tn hn (by decide)) (tn hn (by decide)) (tn hn (by decide)) (tn hn (by decide)) (tn hn (by decide)) (tn hn (by decide)) (tn hn (by decide))) (hFq25 148 (by decide) (by decide) (by decide) (by decide) (by decide) (by decide) (by decide)) (hFq25 149 (by decide) (by decide) (by decide) (by decide) (by decide) (by decide) (by decide)) hR.1), hm1, hm2⟩⟩
set_option maxRecDepth 100000 in
set_option maxHeartbeats 8000000 in
theorem LC_34 {xs : List Int32} {Q : pm_R → Prop} {f : Nat → Int32} {A : Nat → List Int32} {R : Nat → Value} {g : Nat → Int32} {B : Nat → List Int32} {x3 : Int32} (h3 : 0 ≤ x3.toInt) (h4 : x3.toInt + 7 ≤ xs.length) (hl : xs.length ≤ 3584) (hS : ST f A R g B) (kk : ∀ (f' : Nat → Int32) (A' : Nat → List Int32) (R' : Nat → Value) (g' : Nat → Int32) (B' : Nat → List Int32), ST f' A' R' g' B' → pmE pg (pg_X xs) pg_tyl pg_cl 41 318 2477 [.retAddr 0, .ref 0, .ref 147, .int x3] [] (cd f' A' R' (em g' B')) Q) : pmE pg (pg_X xs) pg_tyl pg_cl 41 318 2079 [.retAddr 0, .ref 0, .ref 147, .int x3] [] (cd f A R (em g B)) Q := by
  obtain ⟨hC, hM, hR⟩ := hS
  refine pe_aload_n (j := 1) (by decide +kernel) rfl ?_
  refine pe_aloadX_n (j := 0) (by decide +kernel) rfl ?_
  refine pe_iload_n (j := 3) (by decide +kernel) rfl ?_
  refine pe_iconstv (n := 1) (v := 1) (by decide +kernel) (by decide +kernel) ?_
  refine pz_add (by decide +kernel) rfl kz_1 (by omega) (by omega) (fun z1 hz1 => ?_)
  refine pz_ialdX (n := xs.length) (by decide +kernel) (show pg_X xs 0 = some (0, xs, 0) from rfl) rfl hz1 (by omega) (by omega) (fun v2 ev2 => ?_)
  clear hz1
  refine pe_aloadX_n (j := 0) (by decide +kernel) rfl ?_
  refine pe_iload_n (j := 3) (by decide +kernel) rfl ?_
  refine pe_iconstv (n := 2) (v := 2) (by decide +kernel) (by decide +kernel) ?_
  refine pz_add (by decide +kernel) rfl kz_2 (by omega) (by omega) (fun z3 hz3 => ?_)
  refine pz_ialdX (n := xs.length) (by decide +kernel) (show pg_X xs 0 = some (0, xs, 0) from rfl) rfl hz3 (by omega) (by omega) (fun v4 ev4 => ?_)
  clear hz3
  refine pe_aloadX_n (j := 0) (by decide +kernel) rfl ?_
  refine pe_iload_n (j := 3) (by decide +kernel) rfl ?_
  refine pe_iconstv (n := 3) (v := 3) (by decide +kernel) (by decide +kernel) ?_
  refine pz_add (by decide +kernel) rfl kz_3 (by omega) (by omega) (fun z5 hz5 => ?_)
  refine pz_ialdX (n := xs.length) (by decide +kernel) (show pg_X xs 0 = some (0, xs, 0) from rfl) rfl hz5 (by omega) (by omega) (fun v6 ev6 => ?_)
  clear hz5
  refine pe_aloadX_n (j := 0) (by decide +kernel) rfl ?_
  refine pe_iload_n (j := 3) (by decide +kernel) rfl ?_
  refine pe_iconstv (n := 4) (v := 4) (by decide +kernel) (by decide +kernel) ?_
  refine pz_add (by decide +kernel) rfl kz_4 (by omega) (by omega) (fun z7 hz7 => ?_)
  refine pz_ialdX (n := xs.length) (by decide +kernel) (show pg_X xs 0 = some (0, xs, 0) from rfl) rfl hz7 (by omega) (by omega) (fun v8 ev8 => ?_)
  clear hz7
  refine pz_if_eq (off := 7) (t := 2107) (by decide +kernel) (by decide) rfl rfl (fun h9 => ?_) (fun h9 => ?_)
  · skip
    refine pe_iconstv (n := 0) (v := 0) (by decide +kernel) (by decide +kernel) ?_
    refine pz_callV (j := 160) (mj := 190) (by decide +kernel) (cll_V (args := [.int 0, .int v6, .int v4, .int v2]) (n := 4) (by decide +kernel) rfl rfl cd_o0 (by decide +kernel) (Nat.le_of_ble_eq_true rfl) (Nat.le_of_ble_eq_true rfl)) ((pmE_PS (CM_190 st_XO hC))) (fun q10a q10b q10c q10d hqq10 => ?_)
    obtain ⟨⟨f11, A12, R13, rq10, eq10, hIq10, hGq10, hFq10, hHq10, kq10⟩, kpq10⟩ := hqq10
    cases eq10
    refine ⟨rfl, rfl, ?_⟩
    show pmE pg (pg_X xs) pg_tyl pg_cl 41 318 2111 [.retAddr 0, .ref 0, .ref 147, .int x3] [.int rq10] (cd f11 A12 R13 (em g B)) _
    refine pe_pop (by decide +kernel) rfl ?_
    refine pe_aload_n (j := 2) (by decide +kernel) rfl ?_
    refine pe_aloadX_n (j := 0) (by decide +kernel) rfl ?_
    refine pe_iload_n (j := 3) (by decide +kernel) rfl ?_
    refine pe_iconstv (n := 1) (v := 1) (by decide +kernel) (by decide +kernel) ?_
    refine pz_add (by decide +kernel) rfl kz_1 (by omega) (by omega) (fun z14 hz14 => ?_)
    refine pz_ialdX (n := xs.length) (by decide +kernel) (show pg_X xs 0 = some (0, xs, 0) from rfl) rfl hz14 (by omega) (by omega) (fun v15 ev15 => ?_)
    clear hz14
    refine pe_aloadX_n (j := 0) (by decide +kernel) rfl ?_
    refine pe_iload_n (j := 3) (by decide +kernel) rfl ?_
    refine pe_iconstv (n := 2) (v := 2) (by decide +kernel) (by decide +kernel) ?_
    refine pz_add (by decide +kernel) rfl kz_2 (by omega) (by omega) (fun z16 hz16 => ?_)
    refine pz_ialdX (n := xs.length) (by decide +kernel) (show pg_X xs 0 = some (0, xs, 0) from rfl) rfl hz16 (by omega) (by omega) (fun v17 ev17 => ?_)
    clear hz16
    refine pe_aloadX_n (j := 0) (by decide +kernel) rfl ?_
    refine pe_iload_n (j := 3) (by decide +kernel) rfl ?_
    refine pe_iconstv (n := 3) (v := 3) (by decide +kernel) (by decide +kernel) ?_
    refine pz_add (by decide +kernel) rfl kz_3 (by omega) (by omega) (fun z18 hz18 => ?_)
    refine pz_ialdX (n := xs.length) (by decide +kernel) (show pg_X xs 0 = some (0, xs, 0) from rfl) rfl hz18 (by omega) (by omega) (fun v19 ev19 => ?_)
    clear hz18
    refine pe_aloadX_n (j := 0) (by decide +kernel) rfl ?_
    refine pe_iload_n (j := 3) (by decide +kernel) rfl ?_
    refine pe_iconstv (n := 4) (v := 4) (by decide +kernel) (by decide +kernel) ?_
    refine pz_add (by decide +kernel) rfl kz_4 (by omega) (by omega) (fun z20 hz20 => ?_)
    refine pz_ialdX (n := xs.length) (by decide +kernel) (show pg_X xs 0 = some (0, xs, 0) from rfl) rfl hz20 (by omega) (by omega) (fun v21 ev21 => ?_)
    clear hz20
    refine pz_if_eq (off := 7) (t := 2140) (by decide +kernel) (by decide) rfl rfl (fun h22 => ?_) (fun h22 => ?_)
    · skip
      refine pe_iconstv (n := 0) (v := 0) (by decide +kernel) (by decide +kernel) ?_
      show pmE pg (pg_X xs) pg_tyl pg_cl 41 318 2141 [.retAddr 0, .ref 0, .ref 147, .int x3] [.int 0, .int v19, .int v17, .int v15, .ref 147] (md (cc f11 A12 R13) g B) _
      refine pz_callV (j := 164) (mj := 309) (by decide +kernel) (cll_V (args := [.int 0, .int v19, .int v17, .int v15]) (n := 4) (by decide +kernel) rfl rfl (md_o cc_len) (by decide +kernel) (Nat.le_of_ble_eq_true rfl) (Nat.le_of_ble_eq_true rfl)) ((pmE_PS (NM_309 cc_len hM))) (fun q23a q23b q23c q23d hqq23 => ?_)
      obtain ⟨⟨g24, B25, rq23, eq23, hIq23, hGq23, hFq23, kq23⟩, kpq23⟩ := hqq23
      cases eq23
      refine ⟨rfl, rfl, ?_⟩
      show pmE pg (pg_X xs) pg_tyl pg_cl 41 318 2144 [.retAddr 0, .ref 0, .ref 147, .int x3] [.int rq23] (cd f11 A12 R13 (em g24 B25)) _
      obtain ⟨kA, psA⟩ := kpq10
      obtain ⟨kB, psB⟩ := kpq23
      have psA : PS (pg_X xs) kA 190 0 [.ref 0, .int v2, .int v4, .int v6, .int 0, pm_dead] [] (cd f A R (em g B)) (some (.int rq10)) (cd f11 A12 R13 (em g B)) := psA
      have psB : PS (pg_X xs) kB 309 0 [.ref 147, .int v15, .int v17, .int v19, .int 0, pm_dead, pm_dead, pm_dead, pm_dead, pm_dead] [] (cd f11 A12 R13 (em g B)) (some (.int rq23)) (cd f11 A12 R13 (em g24 B25)) := psB
      rw [show v15 = v2 from ev15.trans ev2.symm] at psB
      rw [show v17 = v4 from ev17.trans ev4.symm] at psB
      rw [show v19 = v6 from ev19.trans ev6.symm] at psB
      obtain ⟨hre, hm1, hm2⟩ := RC_34 hR.1.1 hR.2.1 hR.2.2 psA psB
      refine pe_pop (by decide +kernel) rfl ?_
      refine pe_goto (off := 332) (t := 2477) (by decide +kernel) (by decide) rfl ?_
      exact kk _ _ _ _ _ ⟨hIq10, hIq23, ⟨(RL4_fr hIq10 hIq23 (fun n hn => hGq10 n (tn hn (by decide)) (tn hn (by decide)) (tn hn (by decide)) (tn hn (by decide))) (fun n hn => hFq10 n (tn hn (by decide)) (tn hn (by decide)) (tn hn (by decide)) (tn hn (by decide)) (tn hn (by decide)) (tn hn (by decide)) (tn hn (by decide)) (tn hn (by decide)) (tn hn (by decide)) (tn hn (by decide)) (tn hn (by decide))) (hFq23 148 (by decide) (by decide) (by decide) (by decide) (by decide) (by decide) (by decide)) (hFq23 149 (by decide) (by decide) (by decide) (by decide) (by decide) (by decide) (by decide)) hR.1), hm1, hm2⟩⟩
    · skip
      refine pe_iconstv (n := 1) (v := 1) (by decide +kernel) (by decide +kernel) ?_
      refine pe_goto (off := 4) (t := 2141) (by decide +kernel) (by decide) rfl ?_
      show pmE pg (pg_X xs) pg_tyl pg_cl 41 318 2141 [.retAddr 0, .ref 0, .ref 147, .int x3] [.int 1, .int v19, .int v17, .int v15, .ref 147] (md (cc f11 A12 R13) g B) _
      refine pz_callV (j := 164) (mj := 309) (by decide +kernel) (cll_V (args := [.int 1, .int v19, .int v17, .int v15]) (n := 4) (by decide +kernel) rfl rfl (md_o cc_len) (by decide +kernel) (Nat.le_of_ble_eq_true rfl) (Nat.le_of_ble_eq_true rfl)) ((pmE_PS (NM_309 cc_len hM))) (fun q26a q26b q26c q26d hqq26 => ?_)
      obtain ⟨⟨g27, B28, rq26, eq26, hIq26, hGq26, hFq26, kq26⟩, kpq26⟩ := hqq26
      cases eq26
      refine ⟨rfl, rfl, ?_⟩
      show pmE pg (pg_X xs) pg_tyl pg_cl 41 318 2144 [.retAddr 0, .ref 0, .ref 147, .int x3] [.int rq26] (cd f11 A12 R13 (em g27 B28)) _
      rw [show v21 = v8 from ev21.trans ev8.symm] at h22
      exact absurd h9 h22
  · skip
    refine pe_iconstv (n := 1) (v := 1) (by decide +kernel) (by decide +kernel) ?_
    refine pe_goto (off := 4) (t := 2108) (by decide +kernel) (by decide) rfl ?_
    refine pz_callV (j := 160) (mj := 190) (by decide +kernel) (cll_V (args := [.int 1, .int v6, .int v4, .int v2]) (n := 4) (by decide +kernel) rfl rfl cd_o0 (by decide +kernel) (Nat.le_of_ble_eq_true rfl) (Nat.le_of_ble_eq_true rfl)) ((pmE_PS (CM_190 st_XO hC))) (fun q29a q29b q29c q29d hqq29 => ?_)
    obtain ⟨⟨f30, A31, R32, rq29, eq29, hIq29, hGq29, hFq29, hHq29, kq29⟩, kpq29⟩ := hqq29
    cases eq29
    refine ⟨rfl, rfl, ?_⟩
    show pmE pg (pg_X xs) pg_tyl pg_cl 41 318 2111 [.retAddr 0, .ref 0, .ref 147, .int x3] [.int rq29] (cd f30 A31 R32 (em g B)) _
    refine pe_pop (by decide +kernel) rfl ?_
    refine pe_aload_n (j := 2) (by decide +kernel) rfl ?_
    refine pe_aloadX_n (j := 0) (by decide +kernel) rfl ?_
    refine pe_iload_n (j := 3) (by decide +kernel) rfl ?_
    refine pe_iconstv (n := 1) (v := 1) (by decide +kernel) (by decide +kernel) ?_
    refine pz_add (by decide +kernel) rfl kz_1 (by omega) (by omega) (fun z33 hz33 => ?_)
    refine pz_ialdX (n := xs.length) (by decide +kernel) (show pg_X xs 0 = some (0, xs, 0) from rfl) rfl hz33 (by omega) (by omega) (fun v34 ev34 => ?_)
    clear hz33
    refine pe_aloadX_n (j := 0) (by decide +kernel) rfl ?_
    refine pe_iload_n (j := 3) (by decide +kernel) rfl ?_
    refine pe_iconstv (n := 2) (v := 2) (by decide +kernel) (by decide +kernel) ?_
    refine pz_add (by decide +kernel) rfl kz_2 (by omega) (by omega) (fun z35 hz35 => ?_)
    refine pz_ialdX (n := xs.length) (by decide +kernel) (show pg_X xs 0 = some (0, xs, 0) from rfl) rfl hz35 (by omega) (by omega) (fun v36 ev36 => ?_)
    clear hz35
    refine pe_aloadX_n (j := 0) (by decide +kernel) rfl ?_
    refine pe_iload_n (j := 3) (by decide +kernel) rfl ?_
    refine pe_iconstv (n := 3) (v := 3) (by decide +kernel) (by decide +kernel) ?_
    refine pz_add (by decide +kernel) rfl kz_3 (by omega) (by omega) (fun z37 hz37 => ?_)
    refine pz_ialdX (n := xs.length) (by decide +kernel) (show pg_X xs 0 = some (0, xs, 0) from rfl) rfl hz37 (by omega) (by omega) (fun v38 ev38 => ?_)
    clear hz37
    refine pe_aloadX_n (j := 0) (by decide +kernel) rfl ?_
    refine pe_iload_n (j := 3) (by decide +kernel) rfl ?_
    refine pe_iconstv (n := 4) (v := 4) (by decide +kernel) (by decide +kernel) ?_
    refine pz_add (by decide +kernel) rfl kz_4 (by omega) (by omega) (fun z39 hz39 => ?_)
    refine pz_ialdX (n := xs.length) (by decide +kernel) (show pg_X xs 0 = some (0, xs, 0) from rfl) rfl hz39 (by omega) (by omega) (fun v40 ev40 => ?_)
    clear hz39
    refine pz_if_eq (off := 7) (t := 2140) (by decide +kernel) (by decide) rfl rfl (fun h41 => ?_) (fun h41 => ?_)
    · skip
      refine pe_iconstv (n := 0) (v := 0) (by decide +kernel) (by decide +kernel) ?_
      show pmE pg (pg_X xs) pg_tyl pg_cl 41 318 2141 [.retAddr 0, .ref 0, .ref 147, .int x3] [.int 0, .int v38, .int v36, .int v34, .ref 147] (md (cc f30 A31 R32) g B) _
      refine pz_callV (j := 164) (mj := 309) (by decide +kernel) (cll_V (args := [.int 0, .int v38, .int v36, .int v34]) (n := 4) (by decide +kernel) rfl rfl (md_o cc_len) (by decide +kernel) (Nat.le_of_ble_eq_true rfl) (Nat.le_of_ble_eq_true rfl)) ((pmE_PS (NM_309 cc_len hM))) (fun q42a q42b q42c q42d hqq42 => ?_)
      obtain ⟨⟨g43, B44, rq42, eq42, hIq42, hGq42, hFq42, kq42⟩, kpq42⟩ := hqq42
      cases eq42
      refine ⟨rfl, rfl, ?_⟩
      show pmE pg (pg_X xs) pg_tyl pg_cl 41 318 2144 [.retAddr 0, .ref 0, .ref 147, .int x3] [.int rq42] (cd f30 A31 R32 (em g43 B44)) _
      rw [show v40 = v8 from ev40.trans ev8.symm] at h41
      exact absurd h41 h9
    · skip
      refine pe_iconstv (n := 1) (v := 1) (by decide +kernel) (by decide +kernel) ?_
      refine pe_goto (off := 4) (t := 2141) (by decide +kernel) (by decide) rfl ?_
      show pmE pg (pg_X xs) pg_tyl pg_cl 41 318 2141 [.retAddr 0, .ref 0, .ref 147, .int x3] [.int 1, .int v38, .int v36, .int v34, .ref 147] (md (cc f30 A31 R32) g B) _
      refine pz_callV (j := 164) (mj := 309) (by decide +kernel) (cll_V (args := [.int 1, .int v38, .int v36, .int v34]) (n := 4) (by decide +kernel) rfl rfl (md_o cc_len) (by decide +kernel) (Nat.le_of_ble_eq_true rfl) (Nat.le_of_ble_eq_true rfl)) ((pmE_PS (NM_309 cc_len hM))) (fun q45a q45b q45c q45d hqq45 => ?_)
      obtain ⟨⟨g46, B47, rq45, eq45, hIq45, hGq45, hFq45, kq45⟩, kpq45⟩ := hqq45
      cases eq45
      refine ⟨rfl, rfl, ?_⟩
      show pmE pg (pg_X xs) pg_tyl pg_cl 41 318 2144 [.retAddr 0, .ref 0, .ref 147, .int x3] [.int rq45] (cd f30 A31 R32 (em g46 B47)) _
      obtain ⟨kA, psA⟩ := kpq29
      obtain ⟨kB, psB⟩ := kpq45
      have psA : PS (pg_X xs) kA 190 0 [.ref 0, .int v2, .int v4, .int v6, .int 1, pm_dead] [] (cd f A R (em g B)) (some (.int rq29)) (cd f30 A31 R32 (em g B)) := psA
      have psB : PS (pg_X xs) kB 309 0 [.ref 147, .int v34, .int v36, .int v38, .int 1, pm_dead, pm_dead, pm_dead, pm_dead, pm_dead] [] (cd f30 A31 R32 (em g B)) (some (.int rq45)) (cd f30 A31 R32 (em g46 B47)) := psB
      rw [show v34 = v2 from ev34.trans ev2.symm] at psB
      rw [show v36 = v4 from ev36.trans ev4.symm] at psB
      rw [show v38 = v6 from ev38.trans ev6.symm] at psB
      obtain ⟨hre, hm1, hm2⟩ := RC_34 hR.1.1 hR.2.1 hR.2.2 psA psB
      refine pe_pop (by decide +kernel) rfl ?_
      refine pe_goto (off := 332) (t := 2477) (by decide +kernel) (by decide) rfl ?_
      exact kk _ _ _ _ _ ⟨hIq29, hIq45, ⟨(RL4_fr hIq29 hIq45 (fun n hn => hGq29 n (tn hn (by decide)) (tn hn (by decide)) (tn hn (by decide)) (tn hn (by decide))) (fun n hn => hFq29 n (tn hn (by decide)) (tn hn (by decide)) (tn hn (by decide)) (tn hn (by decide)) (tn hn (by decide)) (tn hn (by decide)) (tn hn (by decide)) (tn hn (by decide)) (tn hn (by decide)) (tn hn (by decide)) (tn hn (by decide))) (hFq45 148 (by decide) (by decide) (by decide) (by decide) (by decide) (by decide) (by decide)) (hFq45 149 (by decide) (by decide) (by decide) (by decide) (by decide) (by decide) (by decide)) hR.1), hm1, hm2⟩⟩
end
section
set_option maxRecDepth 100000 in
set_option maxHeartbeats 8000000 in
theorem LC_35 {xs : List Int32} {Q : pm_R → Prop} {f : Nat → Int32} {A : Nat → List Int32} {R : Nat → Value} {g : Nat → Int32} {B : Nat → List Int32} {x3 : Int32} (h3 : 0 ≤ x3.toInt) (h4 : x3.toInt + 7 ≤ xs.length) (hl : xs.length ≤ 3584) (hS : ST f A R g B) (kk : ∀ (f' : Nat → Int32) (A' : Nat → List Int32) (R' : Nat → Value) (g' : Nat → Int32) (B' : Nat → List Int32), ST f' A' R' g' B' → pmE pg (pg_X xs) pg_tyl pg_cl 41 318 2477 [.retAddr 0, .ref 0, .ref 147, .int x3] [] (cd f' A' R' (em g' B')) Q) : pmE pg (pg_X xs) pg_tyl pg_cl 41 318 2148 [.retAddr 0, .ref 0, .ref 147, .int x3] [] (cd f A R (em g B)) Q := by
  obtain ⟨hC, hM, hR⟩ := hS
  refine pe_aload_n (j := 1) (by decide +kernel) rfl ?_
  refine pe_aloadX_n (j := 0) (by decide +kernel) rfl ?_
  refine pe_iload_n (j := 3) (by decide +kernel) rfl ?_
  refine pe_iconstv (n := 1) (v := 1) (by decide +kernel) (by decide +kernel) ?_
  refine pz_add (by decide +kernel) rfl kz_1 (by omega) (by omega) (fun z1 hz1 => ?_)
  refine pz_ialdX (n := xs.length) (by decide +kernel) (show pg_X xs 0 = some (0, xs, 0) from rfl) rfl hz1 (by omega) (by omega) (fun v2 ev2 => ?_)
  clear hz1
  refine pe_aloadX_n (j := 0) (by decide +kernel) rfl ?_
  refine pe_iload_n (j := 3) (by decide +kernel) rfl ?_
  refine pe_iconstv (n := 2) (v := 2) (by decide +kernel) (by decide +kernel) ?_
  refine pz_add (by decide +kernel) rfl kz_2 (by omega) (by omega) (fun z3 hz3 => ?_)
  refine pz_ialdX (n := xs.length) (by decide +kernel) (show pg_X xs 0 = some (0, xs, 0) from rfl) rfl hz3 (by omega) (by omega) (fun v4 ev4 => ?_)
  clear hz3
  refine pe_aloadX_n (j := 0) (by decide +kernel) rfl ?_
  refine pe_iload_n (j := 3) (by decide +kernel) rfl ?_
  refine pe_iconstv (n := 3) (v := 3) (by decide +kernel) (by decide +kernel) ?_
  refine pz_add (by decide +kernel) rfl kz_3 (by omega) (by omega) (fun z5 hz5 => ?_)
  refine pz_ialdX (n := xs.length) (by decide +kernel) (show pg_X xs 0 = some (0, xs, 0) from rfl) rfl hz5 (by omega) (by omega) (fun v6 ev6 => ?_)
  clear hz5
  refine pe_aloadX_n (j := 0) (by decide +kernel) rfl ?_
  refine pe_iload_n (j := 3) (by decide +kernel) rfl ?_
  refine pe_iconstv (n := 4) (v := 4) (by decide +kernel) (by decide +kernel) ?_
  refine pz_add (by decide +kernel) rfl kz_4 (by omega) (by omega) (fun z7 hz7 => ?_)
  refine pz_ialdX (n := xs.length) (by decide +kernel) (show pg_X xs 0 = some (0, xs, 0) from rfl) rfl hz7 (by omega) (by omega) (fun v8 ev8 => ?_)
  clear hz7
  refine pz_callV (j := 165) (mj := 124) (by decide +kernel) (cll_V (args := [.int v8, .int v6, .int v4, .int v2]) (n := 4) (by decide +kernel) rfl rfl cd_o0 (by decide +kernel) (Nat.le_of_ble_eq_true rfl) (Nat.le_of_ble_eq_true rfl)) (CM_124 st_XO hC) (fun q9a q9b q9c q9d hqq9 => ?_)
  obtain ⟨f10, A11, R12, rq9, eq9, hIq9, hGq9, hFq9, hHq9, kq9⟩ := hqq9
  cases eq9
  refine ⟨rfl, rfl, ?_⟩
  show pmE pg (pg_X xs) pg_tyl pg_cl 41 318 2172 [.retAddr 0, .ref 0, .ref 147, .int x3] [.int rq9] (cd f10 A11 R12 (em g B)) _
  refine pe_pop (by decide +kernel) rfl ?_
  refine pe_aload_n (j := 2) (by decide +kernel) rfl ?_
  refine pe_aloadX_n (j := 0) (by decide +kernel) rfl ?_
  refine pe_iload_n (j := 3) (by decide +kernel) rfl ?_
  refine pe_iconstv (n := 1) (v := 1) (by decide +kernel) (by decide +kernel) ?_
  refine pz_add (by decide +kernel) rfl kz_1 (by omega) (by omega) (fun z13 hz13 => ?_)
  refine pz_ialdX (n := xs.length) (by decide +kernel) (show pg_X xs 0 = some (0, xs, 0) from rfl) rfl hz13 (by omega) (by omega) (fun v14 ev14 => ?_)
  clear hz13
  refine pe_aloadX_n (j := 0) (by decide +kernel) rfl ?_
  refine pe_iload_n (j := 3) (by decide +kernel) rfl ?_
  refine pe_iconstv (n := 2) (v := 2) (by decide +kernel) (by decide +kernel) ?_
  refine pz_add (by decide +kernel) rfl kz_2 (by omega) (by omega) (fun z15 hz15 => ?_)
  refine pz_ialdX (n := xs.length) (by decide +kernel) (show pg_X xs 0 = some (0, xs, 0) from rfl) rfl hz15 (by omega) (by omega) (fun v16 ev16 => ?_)
  clear hz15
  refine pe_aloadX_n (j := 0) (by decide +kernel) rfl ?_
  refine pe_iload_n (j := 3) (by decide +kernel) rfl ?_
  refine pe_iconstv (n := 3) (v := 3) (by decide +kernel) (by decide +kernel) ?_
  refine pz_add (by decide +kernel) rfl kz_3 (by omega) (by omega) (fun z17 hz17 => ?_)
  refine pz_ialdX (n := xs.length) (by decide +kernel) (show pg_X xs 0 = some (0, xs, 0) from rfl) rfl hz17 (by omega) (by omega) (fun v18 ev18 => ?_)
  clear hz17
  refine pe_aloadX_n (j := 0) (by decide +kernel) rfl ?_
  refine pe_iload_n (j := 3) (by decide +kernel) rfl ?_
  refine pe_iconstv (n := 4) (v := 4) (by decide +kernel) (by decide +kernel) ?_
  refine pz_add (by decide +kernel) rfl kz_4 (by omega) (by omega) (fun z19 hz19 => ?_)
  refine pz_ialdX (n := xs.length) (by decide +kernel) (show pg_X xs 0 = some (0, xs, 0) from rfl) rfl hz19 (by omega) (by omega) (fun v20 ev20 => ?_)
  clear hz19
  show pmE pg (pg_X xs) pg_tyl pg_cl 41 318 2194 [.retAddr 0, .ref 0, .ref 147, .int x3] [.int v20, .int v18, .int v16, .int v14, .ref 147] (md (cc f10 A11 R12) g B) _
  refine pz_callV (j := 168) (mj := 310) (by decide +kernel) (cll_V (args := [.int v20, .int v18, .int v16, .int v14]) (n := 4) (by decide +kernel) rfl rfl (md_o cc_len) (by decide +kernel) (Nat.le_of_ble_eq_true rfl) (Nat.le_of_ble_eq_true rfl)) (MM_310 cc_len hM) (fun q21a q21b q21c q21d hqq21 => ?_)
  obtain ⟨g22, B23, rq21, eq21, hIq21, hGq21, hFq21, kq21⟩ := hqq21
  cases eq21
  refine ⟨rfl, rfl, ?_⟩
  show pmE pg (pg_X xs) pg_tyl pg_cl 41 318 2197 [.retAddr 0, .ref 0, .ref 147, .int x3] [.int rq21] (cd f10 A11 R12 (em g22 B23)) _
  refine pe_pop (by decide +kernel) rfl ?_
  refine pe_goto (off := 279) (t := 2477) (by decide +kernel) (by decide) rfl ?_
  exact kk _ _ _ _ _ ⟨hIq9, hIq21, (RL5_t (hGq21 31 (by decide) (by decide) (by decide)) (hGq21 32 (by decide) (by decide) (by decide)) (RL4_fr hIq9 hIq21 (fun n hn => hGq9 n (tn hn (by decide)) (tn hn (by decide))) (fun n hn => hFq9 n (tn hn (by decide)) (tn hn (by decide)) (tn hn (by decide))) (hFq21 148 (by decide) (by decide)) (hFq21 149 (by decide) (by decide)) hR.1) hR)⟩
set_option maxRecDepth 100000 in
set_option maxHeartbeats 8000000 in
theorem LC_36 {xs : List Int32} {Q : pm_R → Prop} {f : Nat → Int32} {A : Nat → List Int32} {R : Nat → Value} {g : Nat → Int32} {B : Nat → List Int32} {x3 : Int32} (h3 : 0 ≤ x3.toInt) (h4 : x3.toInt + 7 ≤ xs.length) (hl : xs.length ≤ 3584) (hS : ST f A R g B) (kk : ∀ (f' : Nat → Int32) (A' : Nat → List Int32) (R' : Nat → Value) (g' : Nat → Int32) (B' : Nat → List Int32), ST f' A' R' g' B' → pmE pg (pg_X xs) pg_tyl pg_cl 41 318 2477 [.retAddr 0, .ref 0, .ref 147, .int x3] [] (cd f' A' R' (em g' B')) Q) : pmE pg (pg_X xs) pg_tyl pg_cl 41 318 2201 [.retAddr 0, .ref 0, .ref 147, .int x3] [] (cd f A R (em g B)) Q := by
  obtain ⟨hC, hM, hR⟩ := hS
  refine pe_aload_n (j := 1) (by decide +kernel) rfl ?_
  refine pe_aloadX_n (j := 0) (by decide +kernel) rfl ?_
  refine pe_iload_n (j := 3) (by decide +kernel) rfl ?_
  refine pe_iconstv (n := 1) (v := 1) (by decide +kernel) (by decide +kernel) ?_
  refine pz_add (by decide +kernel) rfl kz_1 (by omega) (by omega) (fun z1 hz1 => ?_)
  refine pz_ialdX (n := xs.length) (by decide +kernel) (show pg_X xs 0 = some (0, xs, 0) from rfl) rfl hz1 (by omega) (by omega) (fun v2 ev2 => ?_)
  clear hz1
  refine pe_aloadX_n (j := 0) (by decide +kernel) rfl ?_
  refine pe_iload_n (j := 3) (by decide +kernel) rfl ?_
  refine pe_iconstv (n := 2) (v := 2) (by decide +kernel) (by decide +kernel) ?_
  refine pz_add (by decide +kernel) rfl kz_2 (by omega) (by omega) (fun z3 hz3 => ?_)
  refine pz_ialdX (n := xs.length) (by decide +kernel) (show pg_X xs 0 = some (0, xs, 0) from rfl) rfl hz3 (by omega) (by omega) (fun v4 ev4 => ?_)
  clear hz3
  refine pe_aloadX_n (j := 0) (by decide +kernel) rfl ?_
  refine pe_iload_n (j := 3) (by decide +kernel) rfl ?_
  refine pe_iconstv (n := 3) (v := 3) (by decide +kernel) (by decide +kernel) ?_
  refine pz_add (by decide +kernel) rfl kz_3 (by omega) (by omega) (fun z5 hz5 => ?_)
  refine pz_ialdX (n := xs.length) (by decide +kernel) (show pg_X xs 0 = some (0, xs, 0) from rfl) rfl hz5 (by omega) (by omega) (fun v6 ev6 => ?_)
  clear hz5
  refine pe_aloadX_n (j := 0) (by decide +kernel) rfl ?_
  refine pe_iload_n (j := 3) (by decide +kernel) rfl ?_
  refine pe_iconstv (n := 4) (v := 4) (by decide +kernel) (by decide +kernel) ?_
  refine pz_add (by decide +kernel) rfl kz_4 (by omega) (by omega) (fun z7 hz7 => ?_)
  refine pz_ialdX (n := xs.length) (by decide +kernel) (show pg_X xs 0 = some (0, xs, 0) from rfl) rfl hz7 (by omega) (by omega) (fun v8 ev8 => ?_)
  clear hz7
  refine pe_aloadX_n (j := 0) (by decide +kernel) rfl ?_
  refine pe_iload_n (j := 3) (by decide +kernel) rfl ?_
  refine pe_iconstv (n := 5) (v := 5) (by decide +kernel) (by decide +kernel) ?_
  refine pz_add (by decide +kernel) rfl kz_5 (by omega) (by omega) (fun z9 hz9 => ?_)
  refine pz_ialdX (n := xs.length) (by decide +kernel) (show pg_X xs 0 = some (0, xs, 0) from rfl) rfl hz9 (by omega) (by omega) (fun v10 ev10 => ?_)
  clear hz9
  refine pz_callV (j := 169) (mj := 192) (by decide +kernel) (cll_V (args := [.int v10, .int v8, .int v6, .int v4, .int v2]) (n := 5) (by decide +kernel) rfl rfl cd_o0 (by decide +kernel) (Nat.le_of_ble_eq_true rfl) (Nat.le_of_ble_eq_true rfl)) (CM_192 st_XO hC) (fun q11a q11b q11c q11d hqq11 => ?_)
  obtain ⟨f12, A13, R14, rq11, eq11, hIq11, hGq11, hFq11, hHq11, kq11⟩ := hqq11
  cases eq11
  refine ⟨rfl, rfl, ?_⟩
  show pmE pg (pg_X xs) pg_tyl pg_cl 41 318 2230 [.retAddr 0, .ref 0, .ref 147, .int x3] [.int rq11] (cd f12 A13 R14 (em g B)) _
  refine pe_pop (by decide +kernel) rfl ?_
  refine pe_aload_n (j := 2) (by decide +kernel) rfl ?_
  refine pe_aloadX_n (j := 0) (by decide +kernel) rfl ?_
  refine pe_iload_n (j := 3) (by decide +kernel) rfl ?_
  refine pe_iconstv (n := 1) (v := 1) (by decide +kernel) (by decide +kernel) ?_
  refine pz_add (by decide +kernel) rfl kz_1 (by omega) (by omega) (fun z15 hz15 => ?_)
  refine pz_ialdX (n := xs.length) (by decide +kernel) (show pg_X xs 0 = some (0, xs, 0) from rfl) rfl hz15 (by omega) (by omega) (fun v16 ev16 => ?_)
  clear hz15
  refine pe_aloadX_n (j := 0) (by decide +kernel) rfl ?_
  refine pe_iload_n (j := 3) (by decide +kernel) rfl ?_
  refine pe_iconstv (n := 2) (v := 2) (by decide +kernel) (by decide +kernel) ?_
  refine pz_add (by decide +kernel) rfl kz_2 (by omega) (by omega) (fun z17 hz17 => ?_)
  refine pz_ialdX (n := xs.length) (by decide +kernel) (show pg_X xs 0 = some (0, xs, 0) from rfl) rfl hz17 (by omega) (by omega) (fun v18 ev18 => ?_)
  clear hz17
  refine pe_aloadX_n (j := 0) (by decide +kernel) rfl ?_
  refine pe_iload_n (j := 3) (by decide +kernel) rfl ?_
  refine pe_iconstv (n := 3) (v := 3) (by decide +kernel) (by decide +kernel) ?_
  refine pz_add (by decide +kernel) rfl kz_3 (by omega) (by omega) (fun z19 hz19 => ?_)
  refine pz_ialdX (n := xs.length) (by decide +kernel) (show pg_X xs 0 = some (0, xs, 0) from rfl) rfl hz19 (by omega) (by omega) (fun v20 ev20 => ?_)
  clear hz19
  refine pe_aloadX_n (j := 0) (by decide +kernel) rfl ?_
  refine pe_iload_n (j := 3) (by decide +kernel) rfl ?_
  refine pe_iconstv (n := 4) (v := 4) (by decide +kernel) (by decide +kernel) ?_
  refine pz_add (by decide +kernel) rfl kz_4 (by omega) (by omega) (fun z21 hz21 => ?_)
  refine pz_ialdX (n := xs.length) (by decide +kernel) (show pg_X xs 0 = some (0, xs, 0) from rfl) rfl hz21 (by omega) (by omega) (fun v22 ev22 => ?_)
  clear hz21
  refine pe_aloadX_n (j := 0) (by decide +kernel) rfl ?_
  refine pe_iload_n (j := 3) (by decide +kernel) rfl ?_
  refine pe_iconstv (n := 5) (v := 5) (by decide +kernel) (by decide +kernel) ?_
  refine pz_add (by decide +kernel) rfl kz_5 (by omega) (by omega) (fun z23 hz23 => ?_)
  refine pz_ialdX (n := xs.length) (by decide +kernel) (show pg_X xs 0 = some (0, xs, 0) from rfl) rfl hz23 (by omega) (by omega) (fun v24 ev24 => ?_)
  clear hz23
  show pmE pg (pg_X xs) pg_tyl pg_cl 41 318 2257 [.retAddr 0, .ref 0, .ref 147, .int x3] [.int v24, .int v22, .int v20, .int v18, .int v16, .ref 147] (md (cc f12 A13 R14) g B) _
  refine pz_callV (j := 172) (mj := 311) (by decide +kernel) (cll_V (args := [.int v24, .int v22, .int v20, .int v18, .int v16]) (n := 5) (by decide +kernel) rfl rfl (md_o cc_len) (by decide +kernel) (Nat.le_of_ble_eq_true rfl) (Nat.le_of_ble_eq_true rfl)) (NM_311 cc_len hM) (fun q25a q25b q25c q25d hqq25 => ?_)
  obtain ⟨g26, B27, rq25, eq25, hIq25, hGq25, hFq25, kq25⟩ := hqq25
  cases eq25
  refine ⟨rfl, rfl, ?_⟩
  show pmE pg (pg_X xs) pg_tyl pg_cl 41 318 2260 [.retAddr 0, .ref 0, .ref 147, .int x3] [.int rq25] (cd f12 A13 R14 (em g26 B27)) _
  refine pe_pop (by decide +kernel) rfl ?_
  refine pe_goto (off := 216) (t := 2477) (by decide +kernel) (by decide) rfl ?_
  exact kk _ _ _ _ _ ⟨hIq11, hIq25, (RL5_t (hGq25 31 (by decide) (by decide) (by decide)) (hGq25 32 (by decide) (by decide) (by decide)) (RL4_fr hIq11 hIq25 (fun n hn => hGq11 n (tn hn (by decide)) (tn hn (by decide)) (tn hn (by decide))) (fun n hn => hFq11 n (tn hn (by decide)) (tn hn (by decide)) (tn hn (by decide)) (tn hn (by decide)) (tn hn (by decide)) (tn hn (by decide)) (tn hn (by decide)) (tn hn (by decide))) (hFq25 148 (by decide) (by decide) (by decide) (by decide) (by decide) (by decide) (by decide)) (hFq25 149 (by decide) (by decide) (by decide) (by decide) (by decide) (by decide) (by decide)) hR.1) hR)⟩
set_option maxRecDepth 100000 in
set_option maxHeartbeats 8000000 in
theorem LC_37 {xs : List Int32} {Q : pm_R → Prop} {f : Nat → Int32} {A : Nat → List Int32} {R : Nat → Value} {g : Nat → Int32} {B : Nat → List Int32} {x3 : Int32} (h3 : 0 ≤ x3.toInt) (h4 : x3.toInt + 7 ≤ xs.length) (hl : xs.length ≤ 3584) (hS : ST f A R g B) (kk : ∀ (f' : Nat → Int32) (A' : Nat → List Int32) (R' : Nat → Value) (g' : Nat → Int32) (B' : Nat → List Int32), ST f' A' R' g' B' → pmE pg (pg_X xs) pg_tyl pg_cl 41 318 2477 [.retAddr 0, .ref 0, .ref 147, .int x3] [] (cd f' A' R' (em g' B')) Q) : pmE pg (pg_X xs) pg_tyl pg_cl 41 318 2264 [.retAddr 0, .ref 0, .ref 147, .int x3] [] (cd f A R (em g B)) Q := by
  obtain ⟨hC, hM, hR⟩ := hS
  refine pe_aload_n (j := 1) (by decide +kernel) rfl ?_
  refine pe_aloadX_n (j := 0) (by decide +kernel) rfl ?_
  refine pe_iload_n (j := 3) (by decide +kernel) rfl ?_
  refine pe_iconstv (n := 1) (v := 1) (by decide +kernel) (by decide +kernel) ?_
  refine pz_add (by decide +kernel) rfl kz_1 (by omega) (by omega) (fun z1 hz1 => ?_)
  refine pz_ialdX (n := xs.length) (by decide +kernel) (show pg_X xs 0 = some (0, xs, 0) from rfl) rfl hz1 (by omega) (by omega) (fun v2 ev2 => ?_)
  clear hz1
  refine pe_aloadX_n (j := 0) (by decide +kernel) rfl ?_
  refine pe_iload_n (j := 3) (by decide +kernel) rfl ?_
  refine pe_iconstv (n := 2) (v := 2) (by decide +kernel) (by decide +kernel) ?_
  refine pz_add (by decide +kernel) rfl kz_2 (by omega) (by omega) (fun z3 hz3 => ?_)
  refine pz_ialdX (n := xs.length) (by decide +kernel) (show pg_X xs 0 = some (0, xs, 0) from rfl) rfl hz3 (by omega) (by omega) (fun v4 ev4 => ?_)
  clear hz3
  refine pe_aloadX_n (j := 0) (by decide +kernel) rfl ?_
  refine pe_iload_n (j := 3) (by decide +kernel) rfl ?_
  refine pe_iconstv (n := 3) (v := 3) (by decide +kernel) (by decide +kernel) ?_
  refine pz_add (by decide +kernel) rfl kz_3 (by omega) (by omega) (fun z5 hz5 => ?_)
  refine pz_ialdX (n := xs.length) (by decide +kernel) (show pg_X xs 0 = some (0, xs, 0) from rfl) rfl hz5 (by omega) (by omega) (fun v6 ev6 => ?_)
  clear hz5
  refine pe_aloadX_n (j := 0) (by decide +kernel) rfl ?_
  refine pe_iload_n (j := 3) (by decide +kernel) rfl ?_
  refine pe_iconstv (n := 4) (v := 4) (by decide +kernel) (by decide +kernel) ?_
  refine pz_add (by decide +kernel) rfl kz_4 (by omega) (by omega) (fun z7 hz7 => ?_)
  refine pz_ialdX (n := xs.length) (by decide +kernel) (show pg_X xs 0 = some (0, xs, 0) from rfl) rfl hz7 (by omega) (by omega) (fun v8 ev8 => ?_)
  clear hz7
  refine pz_if_eq (off := 7) (t := 2292) (by decide +kernel) (by decide) rfl rfl (fun h9 => ?_) (fun h9 => ?_)
  · skip
    refine pe_iconstv (n := 0) (v := 0) (by decide +kernel) (by decide +kernel) ?_
    refine pz_callV (j := 173) (mj := 193) (by decide +kernel) (cll_V (args := [.int 0, .int v6, .int v4, .int v2]) (n := 4) (by decide +kernel) rfl rfl cd_o0 (by decide +kernel) (Nat.le_of_ble_eq_true rfl) (Nat.le_of_ble_eq_true rfl)) (CM_193 st_XO hC) (fun q10a q10b q10c q10d hqq10 => ?_)
    obtain ⟨f11, A12, R13, rq10, eq10, hIq10, hGq10, hFq10, hHq10, kq10⟩ := hqq10
    cases eq10
    refine ⟨rfl, rfl, ?_⟩
    show pmE pg (pg_X xs) pg_tyl pg_cl 41 318 2296 [.retAddr 0, .ref 0, .ref 147, .int x3] [.int rq10] (cd f11 A12 R13 (em g B)) _
    refine pe_pop (by decide +kernel) rfl ?_
    refine pe_aload_n (j := 2) (by decide +kernel) rfl ?_
    refine pe_aloadX_n (j := 0) (by decide +kernel) rfl ?_
    refine pe_iload_n (j := 3) (by decide +kernel) rfl ?_
    refine pe_iconstv (n := 1) (v := 1) (by decide +kernel) (by decide +kernel) ?_
    refine pz_add (by decide +kernel) rfl kz_1 (by omega) (by omega) (fun z14 hz14 => ?_)
    refine pz_ialdX (n := xs.length) (by decide +kernel) (show pg_X xs 0 = some (0, xs, 0) from rfl) rfl hz14 (by omega) (by omega) (fun v15 ev15 => ?_)
    clear hz14
    refine pe_aloadX_n (j := 0) (by decide +kernel) rfl ?_
    refine pe_iload_n (j := 3) (by decide +kernel) rfl ?_
    refine pe_iconstv (n := 2) (v := 2) (by decide +kernel) (by decide +kernel) ?_
    refine pz_add (by decide +kernel) rfl kz_2 (by omega) (by omega) (fun z16 hz16 => ?_)
    refine pz_ialdX (n := xs.length) (by decide +kernel) (show pg_X xs 0 = some (0, xs, 0) from rfl) rfl hz16 (by omega) (by omega) (fun v17 ev17 => ?_)
    clear hz16
    refine pe_aloadX_n (j := 0) (by decide +kernel) rfl ?_
    refine pe_iload_n (j := 3) (by decide +kernel) rfl ?_
    refine pe_iconstv (n := 3) (v := 3) (by decide +kernel) (by decide +kernel) ?_
    refine pz_add (by decide +kernel) rfl kz_3 (by omega) (by omega) (fun z18 hz18 => ?_)
    refine pz_ialdX (n := xs.length) (by decide +kernel) (show pg_X xs 0 = some (0, xs, 0) from rfl) rfl hz18 (by omega) (by omega) (fun v19 ev19 => ?_)
    clear hz18
    refine pe_aloadX_n (j := 0) (by decide +kernel) rfl ?_
    refine pe_iload_n (j := 3) (by decide +kernel) rfl ?_
    refine pe_iconstv (n := 4) (v := 4) (by decide +kernel) (by decide +kernel) ?_
    refine pz_add (by decide +kernel) rfl kz_4 (by omega) (by omega) (fun z20 hz20 => ?_)
    refine pz_ialdX (n := xs.length) (by decide +kernel) (show pg_X xs 0 = some (0, xs, 0) from rfl) rfl hz20 (by omega) (by omega) (fun v21 ev21 => ?_)
    clear hz20
    refine pz_if_eq (off := 7) (t := 2325) (by decide +kernel) (by decide) rfl rfl (fun h22 => ?_) (fun h22 => ?_)
    · skip
      refine pe_iconstv (n := 0) (v := 0) (by decide +kernel) (by decide +kernel) ?_
      show pmE pg (pg_X xs) pg_tyl pg_cl 41 318 2326 [.retAddr 0, .ref 0, .ref 147, .int x3] [.int 0, .int v19, .int v17, .int v15, .ref 147] (md (cc f11 A12 R13) g B) _
      refine pz_callV (j := 176) (mj := 313) (by decide +kernel) (cll_V (args := [.int 0, .int v19, .int v17, .int v15]) (n := 4) (by decide +kernel) rfl rfl (md_o cc_len) (by decide +kernel) (Nat.le_of_ble_eq_true rfl) (Nat.le_of_ble_eq_true rfl)) (NM_313 cc_len hM) (fun q23a q23b q23c q23d hqq23 => ?_)
      obtain ⟨g24, B25, rq23, eq23, hIq23, hGq23, hFq23, kq23⟩ := hqq23
      cases eq23
      refine ⟨rfl, rfl, ?_⟩
      show pmE pg (pg_X xs) pg_tyl pg_cl 41 318 2329 [.retAddr 0, .ref 0, .ref 147, .int x3] [.int rq23] (cd f11 A12 R13 (em g24 B25)) _
      refine pe_pop (by decide +kernel) rfl ?_
      refine pe_goto (off := 147) (t := 2477) (by decide +kernel) (by decide) rfl ?_
      exact kk _ _ _ _ _ ⟨hIq10, hIq23, (RL5_t (hGq23 31 (by decide) (by decide) (by decide)) (hGq23 32 (by decide) (by decide) (by decide)) (RL4_fr hIq10 hIq23 (fun n hn => hGq10 n (tn hn (by decide)) (tn hn (by decide)) (tn hn (by decide))) (fun n hn => hFq10 n (tn hn (by decide)) (tn hn (by decide)) (tn hn (by decide)) (tn hn (by decide)) (tn hn (by decide)) (tn hn (by decide)) (tn hn (by decide)) (tn hn (by decide))) (hFq23 148 (by decide) (by decide) (by decide) (by decide) (by decide) (by decide) (by decide)) (hFq23 149 (by decide) (by decide) (by decide) (by decide) (by decide) (by decide) (by decide)) hR.1) hR)⟩
    · skip
      refine pe_iconstv (n := 1) (v := 1) (by decide +kernel) (by decide +kernel) ?_
      refine pe_goto (off := 4) (t := 2326) (by decide +kernel) (by decide) rfl ?_
      show pmE pg (pg_X xs) pg_tyl pg_cl 41 318 2326 [.retAddr 0, .ref 0, .ref 147, .int x3] [.int 1, .int v19, .int v17, .int v15, .ref 147] (md (cc f11 A12 R13) g B) _
      refine pz_callV (j := 176) (mj := 313) (by decide +kernel) (cll_V (args := [.int 1, .int v19, .int v17, .int v15]) (n := 4) (by decide +kernel) rfl rfl (md_o cc_len) (by decide +kernel) (Nat.le_of_ble_eq_true rfl) (Nat.le_of_ble_eq_true rfl)) (NM_313 cc_len hM) (fun q26a q26b q26c q26d hqq26 => ?_)
      obtain ⟨g27, B28, rq26, eq26, hIq26, hGq26, hFq26, kq26⟩ := hqq26
      cases eq26
      refine ⟨rfl, rfl, ?_⟩
      show pmE pg (pg_X xs) pg_tyl pg_cl 41 318 2329 [.retAddr 0, .ref 0, .ref 147, .int x3] [.int rq26] (cd f11 A12 R13 (em g27 B28)) _
      refine pe_pop (by decide +kernel) rfl ?_
      refine pe_goto (off := 147) (t := 2477) (by decide +kernel) (by decide) rfl ?_
      exact kk _ _ _ _ _ ⟨hIq10, hIq26, (RL5_t (hGq26 31 (by decide) (by decide) (by decide)) (hGq26 32 (by decide) (by decide) (by decide)) (RL4_fr hIq10 hIq26 (fun n hn => hGq10 n (tn hn (by decide)) (tn hn (by decide)) (tn hn (by decide))) (fun n hn => hFq10 n (tn hn (by decide)) (tn hn (by decide)) (tn hn (by decide)) (tn hn (by decide)) (tn hn (by decide)) (tn hn (by decide)) (tn hn (by decide)) (tn hn (by decide))) (hFq26 148 (by decide) (by decide) (by decide) (by decide) (by decide) (by decide) (by decide)) (hFq26 149 (by decide) (by decide) (by decide) (by decide) (by decide) (by decide) (by decide)) hR.1) hR)⟩
  · skip
    refine pe_iconstv (n := 1) (v := 1) (by decide +kernel) (by decide +kernel) ?_
    refine pe_goto (off := 4) (t := 2293) (by decide +kernel) (by decide) rfl ?_
    refine pz_callV (j := 173) (mj := 193) (by decide +kernel) (cll_V (args := [.int 1, .int v6, .int v4, .int v2]) (n := 4) (by decide +kernel) rfl rfl cd_o0 (by decide +kernel) (Nat.le_of_ble_eq_true rfl) (Nat.le_of_ble_eq_true rfl)) (CM_193 st_XO hC) (fun q29a q29b q29c q29d hqq29 => ?_)
    obtain ⟨f30, A31, R32, rq29, eq29, hIq29, hGq29, hFq29, hHq29, kq29⟩ := hqq29
    cases eq29
    refine ⟨rfl, rfl, ?_⟩
    show pmE pg (pg_X xs) pg_tyl pg_cl 41 318 2296 [.retAddr 0, .ref 0, .ref 147, .int x3] [.int rq29] (cd f30 A31 R32 (em g B)) _
    refine pe_pop (by decide +kernel) rfl ?_
    refine pe_aload_n (j := 2) (by decide +kernel) rfl ?_
    refine pe_aloadX_n (j := 0) (by decide +kernel) rfl ?_
    refine pe_iload_n (j := 3) (by decide +kernel) rfl ?_
    refine pe_iconstv (n := 1) (v := 1) (by decide +kernel) (by decide +kernel) ?_
    refine pz_add (by decide +kernel) rfl kz_1 (by omega) (by omega) (fun z33 hz33 => ?_)
    refine pz_ialdX (n := xs.length) (by decide +kernel) (show pg_X xs 0 = some (0, xs, 0) from rfl) rfl hz33 (by omega) (by omega) (fun v34 ev34 => ?_)
    clear hz33
    refine pe_aloadX_n (j := 0) (by decide +kernel) rfl ?_
    refine pe_iload_n (j := 3) (by decide +kernel) rfl ?_
    refine pe_iconstv (n := 2) (v := 2) (by decide +kernel) (by decide +kernel) ?_
    refine pz_add (by decide +kernel) rfl kz_2 (by omega) (by omega) (fun z35 hz35 => ?_)
    refine pz_ialdX (n := xs.length) (by decide +kernel) (show pg_X xs 0 = some (0, xs, 0) from rfl) rfl hz35 (by omega) (by omega) (fun v36 ev36 => ?_)
    clear hz35
    refine pe_aloadX_n (j := 0) (by decide +kernel) rfl ?_
    refine pe_iload_n (j := 3) (by decide +kernel) rfl ?_
    refine pe_iconstv (n := 3) (v := 3) (by decide +kernel) (by decide +kernel) ?_
    refine pz_add (by decide +kernel) rfl kz_3 (by omega) (by omega) (fun z37 hz37 => ?_)
    refine pz_ialdX (n := xs.length) (by decide +kernel) (show pg_X xs 0 = some (0, xs, 0) from rfl) rfl hz37 (by omega) (by omega) (fun v38 ev38 => ?_)
    clear hz37
    refine pe_aloadX_n (j := 0) (by decide +kernel) rfl ?_
    refine pe_iload_n (j := 3) (by decide +kernel) rfl ?_
    refine pe_iconstv (n := 4) (v := 4) (by decide +kernel) (by decide +kernel) ?_
    refine pz_add (by decide +kernel) rfl kz_4 (by omega) (by omega) (fun z39 hz39 => ?_)
    refine pz_ialdX (n := xs.length) (by decide +kernel) (show pg_X xs 0 = some (0, xs, 0) from rfl) rfl hz39 (by omega) (by omega) (fun v40 ev40 => ?_)
    clear hz39
    refine pz_if_eq (off := 7) (t := 2325) (by decide +kernel) (by decide) rfl rfl (fun h41 => ?_) (fun h41 => ?_)
    · skip
      refine pe_iconstv (n := 0) (v := 0) (by decide +kernel) (by decide +kernel) ?_
      show pmE pg (pg_X xs) pg_tyl pg_cl 41 318 2326 [.retAddr 0, .ref 0, .ref 147, .int x3] [.int 0, .int v38, .int v36, .int v34, .ref 147] (md (cc f30 A31 R32) g B) _
      refine pz_callV (j := 176) (mj := 313) (by decide +kernel) (cll_V (args := [.int 0, .int v38, .int v36, .int v34]) (n := 4) (by decide +kernel) rfl rfl (md_o cc_len) (by decide +kernel) (Nat.le_of_ble_eq_true rfl) (Nat.le_of_ble_eq_true rfl)) (NM_313 cc_len hM) (fun q42a q42b q42c q42d hqq42 => ?_)
      obtain ⟨g43, B44, rq42, eq42, hIq42, hGq42, hFq42, kq42⟩ := hqq42
      cases eq42
      refine ⟨rfl, rfl, ?_⟩
      show pmE pg (pg_X xs) pg_tyl pg_cl 41 318 2329 [.retAddr 0, .ref 0, .ref 147, .int x3] [.int rq42] (cd f30 A31 R32 (em g43 B44)) _
      refine pe_pop (by decide +kernel) rfl ?_
      refine pe_goto (off := 147) (t := 2477) (by decide +kernel) (by decide) rfl ?_
      exact kk _ _ _ _ _ ⟨hIq29, hIq42, (RL5_t (hGq42 31 (by decide) (by decide) (by decide)) (hGq42 32 (by decide) (by decide) (by decide)) (RL4_fr hIq29 hIq42 (fun n hn => hGq29 n (tn hn (by decide)) (tn hn (by decide)) (tn hn (by decide))) (fun n hn => hFq29 n (tn hn (by decide)) (tn hn (by decide)) (tn hn (by decide)) (tn hn (by decide)) (tn hn (by decide)) (tn hn (by decide)) (tn hn (by decide)) (tn hn (by decide))) (hFq42 148 (by decide) (by decide) (by decide) (by decide) (by decide) (by decide) (by decide)) (hFq42 149 (by decide) (by decide) (by decide) (by decide) (by decide) (by decide) (by decide)) hR.1) hR)⟩
    · skip
      refine pe_iconstv (n := 1) (v := 1) (by decide +kernel) (by decide +kernel) ?_
      refine pe_goto (off := 4) (t := 2326) (by decide +kernel) (by decide) rfl ?_
      show pmE pg (pg_X xs) pg_tyl pg_cl 41 318 2326 [.retAddr 0, .ref 0, .ref 147, .int x3] [.int 1, .int v38, .int v36, .int v34, .ref 147] (md (cc f30 A31 R32) g B) _
      refine pz_callV (j := 176) (mj := 313) (by decide +kernel) (cll_V (args := [.int 1, .int v38, .int v36, .int v34]) (n := 4) (by decide +kernel) rfl rfl (md_o cc_len) (by decide +kernel) (Nat.le_of_ble_eq_true rfl) (Nat.le_of_ble_eq_true rfl)) (NM_313 cc_len hM) (fun q45a q45b q45c q45d hqq45 => ?_)
      obtain ⟨g46, B47, rq45, eq45, hIq45, hGq45, hFq45, kq45⟩ := hqq45
      cases eq45
      refine ⟨rfl, rfl, ?_⟩
      show pmE pg (pg_X xs) pg_tyl pg_cl 41 318 2329 [.retAddr 0, .ref 0, .ref 147, .int x3] [.int rq45] (cd f30 A31 R32 (em g46 B47)) _
      refine pe_pop (by decide +kernel) rfl ?_
      refine pe_goto (off := 147) (t := 2477) (by decide +kernel) (by decide) rfl ?_
      exact kk _ _ _ _ _ ⟨hIq29, hIq45, (RL5_t (hGq45 31 (by decide) (by decide) (by decide)) (hGq45 32 (by decide) (by decide) (by decide)) (RL4_fr hIq29 hIq45 (fun n hn => hGq29 n (tn hn (by decide)) (tn hn (by decide)) (tn hn (by decide))) (fun n hn => hFq29 n (tn hn (by decide)) (tn hn (by decide)) (tn hn (by decide)) (tn hn (by decide)) (tn hn (by decide)) (tn hn (by decide)) (tn hn (by decide)) (tn hn (by decide))) (hFq45 148 (by decide) (by decide) (by decide) (by decide) (by decide) (by decide) (by decide)) (hFq45 149 (by decide) (by decide) (by decide) (by decide) (by decide) (by decide) (by decide)) hR.1) hR)⟩
set_option maxRecDepth 100000 in
set_option maxHeartbeats 8000000 in
theorem LC_38 {xs : List Int32} {Q : pm_R → Prop} {f : Nat → Int32} {A : Nat → List Int32} {R : Nat → Value} {g : Nat → Int32} {B : Nat → List Int32} {x3 : Int32} (h3 : 0 ≤ x3.toInt) (h4 : x3.toInt + 7 ≤ xs.length) (hl : xs.length ≤ 3584) (hS : ST f A R g B) (kk : ∀ (f' : Nat → Int32) (A' : Nat → List Int32) (R' : Nat → Value) (g' : Nat → Int32) (B' : Nat → List Int32), ST f' A' R' g' B' → pmE pg (pg_X xs) pg_tyl pg_cl 41 318 2477 [.retAddr 0, .ref 0, .ref 147, .int x3] [] (cd f' A' R' (em g' B')) Q) : pmE pg (pg_X xs) pg_tyl pg_cl 41 318 2333 [.retAddr 0, .ref 0, .ref 147, .int x3] [] (cd f A R (em g B)) Q := by
  obtain ⟨hC, hM, hR⟩ := hS
  refine pe_aload_n (j := 1) (by decide +kernel) rfl ?_
  refine pe_aloadX_n (j := 0) (by decide +kernel) rfl ?_
  refine pe_iload_n (j := 3) (by decide +kernel) rfl ?_
  refine pe_iconstv (n := 1) (v := 1) (by decide +kernel) (by decide +kernel) ?_
  refine pz_add (by decide +kernel) rfl kz_1 (by omega) (by omega) (fun z1 hz1 => ?_)
  refine pz_ialdX (n := xs.length) (by decide +kernel) (show pg_X xs 0 = some (0, xs, 0) from rfl) rfl hz1 (by omega) (by omega) (fun v2 ev2 => ?_)
  clear hz1
  refine pe_aloadX_n (j := 0) (by decide +kernel) rfl ?_
  refine pe_iload_n (j := 3) (by decide +kernel) rfl ?_
  refine pe_iconstv (n := 2) (v := 2) (by decide +kernel) (by decide +kernel) ?_
  refine pz_add (by decide +kernel) rfl kz_2 (by omega) (by omega) (fun z3 hz3 => ?_)
  refine pz_ialdX (n := xs.length) (by decide +kernel) (show pg_X xs 0 = some (0, xs, 0) from rfl) rfl hz3 (by omega) (by omega) (fun v4 ev4 => ?_)
  clear hz3
  refine pe_aloadX_n (j := 0) (by decide +kernel) rfl ?_
  refine pe_iload_n (j := 3) (by decide +kernel) rfl ?_
  refine pe_iconstv (n := 3) (v := 3) (by decide +kernel) (by decide +kernel) ?_
  refine pz_add (by decide +kernel) rfl kz_3 (by omega) (by omega) (fun z5 hz5 => ?_)
  refine pz_ialdX (n := xs.length) (by decide +kernel) (show pg_X xs 0 = some (0, xs, 0) from rfl) rfl hz5 (by omega) (by omega) (fun v6 ev6 => ?_)
  clear hz5
  refine pe_aloadX_n (j := 0) (by decide +kernel) rfl ?_
  refine pe_iload_n (j := 3) (by decide +kernel) rfl ?_
  refine pe_iconstv (n := 4) (v := 4) (by decide +kernel) (by decide +kernel) ?_
  refine pz_add (by decide +kernel) rfl kz_4 (by omega) (by omega) (fun z7 hz7 => ?_)
  refine pz_ialdX (n := xs.length) (by decide +kernel) (show pg_X xs 0 = some (0, xs, 0) from rfl) rfl hz7 (by omega) (by omega) (fun v8 ev8 => ?_)
  clear hz7
  refine pe_aloadX_n (j := 0) (by decide +kernel) rfl ?_
  refine pe_iload_n (j := 3) (by decide +kernel) rfl ?_
  refine pe_iconstv (n := 5) (v := 5) (by decide +kernel) (by decide +kernel) ?_
  refine pz_add (by decide +kernel) rfl kz_5 (by omega) (by omega) (fun z9 hz9 => ?_)
  refine pz_ialdX (n := xs.length) (by decide +kernel) (show pg_X xs 0 = some (0, xs, 0) from rfl) rfl hz9 (by omega) (by omega) (fun v10 ev10 => ?_)
  clear hz9
  refine pe_aloadX_n (j := 0) (by decide +kernel) rfl ?_
  refine pe_iload_n (j := 3) (by decide +kernel) rfl ?_
  refine pe_bipushv (n := 6) (v := 6) (by decide +kernel) (by decide +kernel) ?_
  refine pz_add (by decide +kernel) rfl kz_6 (by omega) (by omega) (fun z11 hz11 => ?_)
  refine pz_ialdX (n := xs.length) (by decide +kernel) (show pg_X xs 0 = some (0, xs, 0) from rfl) rfl hz11 (by omega) (by omega) (fun v12 ev12 => ?_)
  clear hz11
  refine pz_callV (j := 177) (mj := 153) (by decide +kernel) (cll_V (args := [.int v12, .int v10, .int v8, .int v6, .int v4, .int v2]) (n := 6) (by decide +kernel) rfl rfl cd_o0 (by decide +kernel) (Nat.le_of_ble_eq_true rfl) (Nat.le_of_ble_eq_true rfl)) (CM_153 st_XO hC) (fun q13a q13b q13c q13d hqq13 => ?_)
  obtain ⟨f14, A15, R16, rq13, eq13, hIq13, hGq13, hFq13, hHq13, kq13⟩ := hqq13
  cases eq13
  refine ⟨rfl, rfl, ?_⟩
  show pmE pg (pg_X xs) pg_tyl pg_cl 41 318 2368 [.retAddr 0, .ref 0, .ref 147, .int x3] [.int rq13] (cd f14 A15 R16 (em g B)) _
  refine pe_pop (by decide +kernel) rfl ?_
  refine pe_aload_n (j := 2) (by decide +kernel) rfl ?_
  refine pe_aloadX_n (j := 0) (by decide +kernel) rfl ?_
  refine pe_iload_n (j := 3) (by decide +kernel) rfl ?_
  refine pe_iconstv (n := 1) (v := 1) (by decide +kernel) (by decide +kernel) ?_
  refine pz_add (by decide +kernel) rfl kz_1 (by omega) (by omega) (fun z17 hz17 => ?_)
  refine pz_ialdX (n := xs.length) (by decide +kernel) (show pg_X xs 0 = some (0, xs, 0) from rfl) rfl hz17 (by omega) (by omega) (fun v18 ev18 => ?_)
  clear hz17
  refine pe_aloadX_n (j := 0) (by decide +kernel) rfl ?_
  refine pe_iload_n (j := 3) (by decide +kernel) rfl ?_
  refine pe_iconstv (n := 2) (v := 2) (by decide +kernel) (by decide +kernel) ?_
  refine pz_add (by decide +kernel) rfl kz_2 (by omega) (by omega) (fun z19 hz19 => ?_)
  refine pz_ialdX (n := xs.length) (by decide +kernel) (show pg_X xs 0 = some (0, xs, 0) from rfl) rfl hz19 (by omega) (by omega) (fun v20 ev20 => ?_)
  clear hz19
  refine pe_aloadX_n (j := 0) (by decide +kernel) rfl ?_
  refine pe_iload_n (j := 3) (by decide +kernel) rfl ?_
  refine pe_iconstv (n := 3) (v := 3) (by decide +kernel) (by decide +kernel) ?_
  refine pz_add (by decide +kernel) rfl kz_3 (by omega) (by omega) (fun z21 hz21 => ?_)
  refine pz_ialdX (n := xs.length) (by decide +kernel) (show pg_X xs 0 = some (0, xs, 0) from rfl) rfl hz21 (by omega) (by omega) (fun v22 ev22 => ?_)
  clear hz21
  refine pe_aloadX_n (j := 0) (by decide +kernel) rfl ?_
  refine pe_iload_n (j := 3) (by decide +kernel) rfl ?_
  refine pe_iconstv (n := 4) (v := 4) (by decide +kernel) (by decide +kernel) ?_
  refine pz_add (by decide +kernel) rfl kz_4 (by omega) (by omega) (fun z23 hz23 => ?_)
  refine pz_ialdX (n := xs.length) (by decide +kernel) (show pg_X xs 0 = some (0, xs, 0) from rfl) rfl hz23 (by omega) (by omega) (fun v24 ev24 => ?_)
  clear hz23
  refine pe_aloadX_n (j := 0) (by decide +kernel) rfl ?_
  refine pe_iload_n (j := 3) (by decide +kernel) rfl ?_
  refine pe_iconstv (n := 5) (v := 5) (by decide +kernel) (by decide +kernel) ?_
  refine pz_add (by decide +kernel) rfl kz_5 (by omega) (by omega) (fun z25 hz25 => ?_)
  refine pz_ialdX (n := xs.length) (by decide +kernel) (show pg_X xs 0 = some (0, xs, 0) from rfl) rfl hz25 (by omega) (by omega) (fun v26 ev26 => ?_)
  clear hz25
  refine pe_aloadX_n (j := 0) (by decide +kernel) rfl ?_
  refine pe_iload_n (j := 3) (by decide +kernel) rfl ?_
  refine pe_bipushv (n := 6) (v := 6) (by decide +kernel) (by decide +kernel) ?_
  refine pz_add (by decide +kernel) rfl kz_6 (by omega) (by omega) (fun z27 hz27 => ?_)
  refine pz_ialdX (n := xs.length) (by decide +kernel) (show pg_X xs 0 = some (0, xs, 0) from rfl) rfl hz27 (by omega) (by omega) (fun v28 ev28 => ?_)
  clear hz27
  show pmE pg (pg_X xs) pg_tyl pg_cl 41 318 2401 [.retAddr 0, .ref 0, .ref 147, .int x3] [.int v28, .int v26, .int v24, .int v22, .int v20, .int v18, .ref 147] (md (cc f14 A15 R16) g B) _
  refine pz_callV (j := 180) (mj := 314) (by decide +kernel) (cll_V (args := [.int v28, .int v26, .int v24, .int v22, .int v20, .int v18]) (n := 6) (by decide +kernel) rfl rfl (md_o cc_len) (by decide +kernel) (Nat.le_of_ble_eq_true rfl) (Nat.le_of_ble_eq_true rfl)) (MM_314 cc_len hM) (fun q29a q29b q29c q29d hqq29 => ?_)
  obtain ⟨g30, B31, rq29, eq29, hIq29, hGq29, hFq29, kq29⟩ := hqq29
  cases eq29
  refine ⟨rfl, rfl, ?_⟩
  show pmE pg (pg_X xs) pg_tyl pg_cl 41 318 2404 [.retAddr 0, .ref 0, .ref 147, .int x3] [.int rq29] (cd f14 A15 R16 (em g30 B31)) _
  refine pe_pop (by decide +kernel) rfl ?_
  refine pe_goto (off := 72) (t := 2477) (by decide +kernel) (by decide) rfl ?_
  exact kk _ _ _ _ _ ⟨hIq13, hIq29, (RL5_t (hGq29 31 (by decide) (by decide) (by decide)) (hGq29 32 (by decide) (by decide) (by decide)) (RL4_fr hIq13 hIq29 (fun n hn => hGq13 n (tn hn (by decide)) (tn hn (by decide))) (fun n hn => hFq13 n (tn hn (by decide)) (tn hn (by decide)) (tn hn (by decide)) (tn hn (by decide))) (hFq29 148 (by decide) (by decide) (by decide)) (hFq29 149 (by decide) (by decide) (by decide)) hR.1) hR)⟩
set_option maxRecDepth 100000 in
set_option maxHeartbeats 8000000 in
theorem LC_39 {xs : List Int32} {Q : pm_R → Prop} {f : Nat → Int32} {A : Nat → List Int32} {R : Nat → Value} {g : Nat → Int32} {B : Nat → List Int32} {x3 : Int32} (h3 : 0 ≤ x3.toInt) (h4 : x3.toInt + 7 ≤ xs.length) (hl : xs.length ≤ 3584) (hS : ST f A R g B) (kk : ∀ (f' : Nat → Int32) (A' : Nat → List Int32) (R' : Nat → Value) (g' : Nat → Int32) (B' : Nat → List Int32), ST f' A' R' g' B' → pmE pg (pg_X xs) pg_tyl pg_cl 41 318 2477 [.retAddr 0, .ref 0, .ref 147, .int x3] [] (cd f' A' R' (em g' B')) Q) : pmE pg (pg_X xs) pg_tyl pg_cl 41 318 2408 [.retAddr 0, .ref 0, .ref 147, .int x3] [] (cd f A R (em g B)) Q := by
  obtain ⟨hC, hM, hR⟩ := hS
  refine pe_aload_n (j := 1) (by decide +kernel) rfl ?_
  refine pe_aloadX_n (j := 0) (by decide +kernel) rfl ?_
  refine pe_iload_n (j := 3) (by decide +kernel) rfl ?_
  refine pe_iconstv (n := 1) (v := 1) (by decide +kernel) (by decide +kernel) ?_
  refine pz_add (by decide +kernel) rfl kz_1 (by omega) (by omega) (fun z1 hz1 => ?_)
  refine pz_ialdX (n := xs.length) (by decide +kernel) (show pg_X xs 0 = some (0, xs, 0) from rfl) rfl hz1 (by omega) (by omega) (fun v2 ev2 => ?_)
  clear hz1
  refine pz_callV (j := 181) (mj := 69) (by decide +kernel) (cll_V (args := [.int v2]) (n := 1) (by decide +kernel) rfl rfl cd_o0 (by decide +kernel) (Nat.le_of_ble_eq_true rfl) (Nat.le_of_ble_eq_true rfl)) (CM_69 st_XO hC) (fun q3a q3b q3c q3d hqq3 => ?_)
  obtain ⟨rq3, eq3, kq3⟩ := hqq3
  cases eq3
  refine ⟨rfl, rfl, ?_⟩
  show pmE pg (pg_X xs) pg_tyl pg_cl 41 318 2417 [.retAddr 0, .ref 0, .ref 147, .int x3] [.int rq3] (cd f A R (em g B)) _
  refine pe_pop (by decide +kernel) rfl ?_
  refine pe_aload_n (j := 2) (by decide +kernel) rfl ?_
  refine pe_aloadX_n (j := 0) (by decide +kernel) rfl ?_
  refine pe_iload_n (j := 3) (by decide +kernel) rfl ?_
  refine pe_iconstv (n := 1) (v := 1) (by decide +kernel) (by decide +kernel) ?_
  refine pz_add (by decide +kernel) rfl kz_1 (by omega) (by omega) (fun z4 hz4 => ?_)
  refine pz_ialdX (n := xs.length) (by decide +kernel) (show pg_X xs 0 = some (0, xs, 0) from rfl) rfl hz4 (by omega) (by omega) (fun v5 ev5 => ?_)
  clear hz4
  show pmE pg (pg_X xs) pg_tyl pg_cl 41 318 2424 [.retAddr 0, .ref 0, .ref 147, .int x3] [.int v5, .ref 147] (md (cc f A R) g B) _
  refine pz_callV (j := 184) (mj := 315) (by decide +kernel) (cll_V (args := [.int v5]) (n := 1) (by decide +kernel) rfl rfl (md_o cc_len) (by decide +kernel) (Nat.le_of_ble_eq_true rfl) (Nat.le_of_ble_eq_true rfl)) (MM_315 cc_len hM) (fun q6a q6b q6c q6d hqq6 => ?_)
  obtain ⟨rq6, eq6, kq6⟩ := hqq6
  cases eq6
  refine ⟨rfl, rfl, ?_⟩
  show pmE pg (pg_X xs) pg_tyl pg_cl 41 318 2427 [.retAddr 0, .ref 0, .ref 147, .int x3] [.int rq6] (cd f A R (em g B)) _
  refine pe_pop (by decide +kernel) rfl ?_
  refine pe_goto (off := 49) (t := 2477) (by decide +kernel) (by decide) rfl ?_
  exact kk _ _ _ _ _ ⟨hC, hM, (RL5_t rfl rfl (RL4_fr hC hM (fun _ _ => rfl) (fun _ _ => rfl) rfl rfl hR.1) hR)⟩
set_option maxRecDepth 100000 in
set_option maxHeartbeats 8000000 in
theorem LC_40 {xs : List Int32} {Q : pm_R → Prop} {f : Nat → Int32} {A : Nat → List Int32} {R : Nat → Value} {g : Nat → Int32} {B : Nat → List Int32} {x3 : Int32} (h3 : 0 ≤ x3.toInt) (h4 : x3.toInt + 7 ≤ xs.length) (hl : xs.length ≤ 3584) (hS : ST f A R g B) (kk : ∀ (f' : Nat → Int32) (A' : Nat → List Int32) (R' : Nat → Value) (g' : Nat → Int32) (B' : Nat → List Int32), ST f' A' R' g' B' → pmE pg (pg_X xs) pg_tyl pg_cl 41 318 2477 [.retAddr 0, .ref 0, .ref 147, .int x3] [] (cd f' A' R' (em g' B')) Q) : pmE pg (pg_X xs) pg_tyl pg_cl 41 318 2431 [.retAddr 0, .ref 0, .ref 147, .int x3] [] (cd f A R (em g B)) Q := by
  obtain ⟨hC, hM, hR⟩ := hS
  refine pe_aload_n (j := 1) (by decide +kernel) rfl ?_
  refine pe_aloadX_n (j := 0) (by decide +kernel) rfl ?_
  refine pe_iload_n (j := 3) (by decide +kernel) rfl ?_
  refine pe_iconstv (n := 1) (v := 1) (by decide +kernel) (by decide +kernel) ?_
  refine pz_add (by decide +kernel) rfl kz_1 (by omega) (by omega) (fun z1 hz1 => ?_)
  refine pz_ialdX (n := xs.length) (by decide +kernel) (show pg_X xs 0 = some (0, xs, 0) from rfl) rfl hz1 (by omega) (by omega) (fun v2 ev2 => ?_)
  clear hz1
  refine pz_callV (j := 185) (mj := 70) (by decide +kernel) (cll_V (args := [.int v2]) (n := 1) (by decide +kernel) rfl rfl cd_o0 (by decide +kernel) (Nat.le_of_ble_eq_true rfl) (Nat.le_of_ble_eq_true rfl)) ((pmE_PS (CM_70 st_XO hC))) (fun q3a q3b q3c q3d hqq3 => ?_)
  obtain ⟨⟨f4, A5, rq3, eq3, hIq3, hGq3, hFq3, kq3⟩, kpq3⟩ := hqq3
  cases eq3
  refine ⟨rfl, rfl, ?_⟩
  show pmE pg (pg_X xs) pg_tyl pg_cl 41 318 2440 [.retAddr 0, .ref 0, .ref 147, .int x3] [.int rq3] (cd f4 A5 R (em g B)) _
  refine pe_pop (by decide +kernel) rfl ?_
  refine pe_aload_n (j := 2) (by decide +kernel) rfl ?_
  refine pe_aloadX_n (j := 0) (by decide +kernel) rfl ?_
  refine pe_iload_n (j := 3) (by decide +kernel) rfl ?_
  refine pe_iconstv (n := 1) (v := 1) (by decide +kernel) (by decide +kernel) ?_
  refine pz_add (by decide +kernel) rfl kz_1 (by omega) (by omega) (fun z6 hz6 => ?_)
  refine pz_ialdX (n := xs.length) (by decide +kernel) (show pg_X xs 0 = some (0, xs, 0) from rfl) rfl hz6 (by omega) (by omega) (fun v7 ev7 => ?_)
  clear hz6
  show pmE pg (pg_X xs) pg_tyl pg_cl 41 318 2447 [.retAddr 0, .ref 0, .ref 147, .int x3] [.int v7, .ref 147] (md (cc f4 A5 R) g B) _
  refine pz_callV (j := 189) (mj := 316) (by decide +kernel) (cll_V (args := [.int v7]) (n := 1) (by decide +kernel) rfl rfl (md_o cc_len) (by decide +kernel) (Nat.le_of_ble_eq_true rfl) (Nat.le_of_ble_eq_true rfl)) ((pmE_PS (NM_316 cc_len hM))) (fun q8a q8b q8c q8d hqq8 => ?_)
  obtain ⟨⟨B9, rq8, eq8, hIq8, hFq8, kq8⟩, kpq8⟩ := hqq8
  cases eq8
  refine ⟨rfl, rfl, ?_⟩
  show pmE pg (pg_X xs) pg_tyl pg_cl 41 318 2450 [.retAddr 0, .ref 0, .ref 147, .int x3] [.int rq8] (cd f4 A5 R (em g B9)) _
  obtain ⟨kA, psA⟩ := kpq3
  obtain ⟨kB, psB⟩ := kpq8
  have psA : PS (pg_X xs) kA 70 0 [.ref 0, .int v2] [] (cd f A R (em g B)) (some (.int rq3)) (cd f4 A5 R (em g B)) := psA
  have psB : PS (pg_X xs) kB 316 0 [.ref 147, .int v7, pm_dead] [] (cd f4 A5 R (em g B)) (some (.int rq8)) (cd f4 A5 R (em g B9)) := psB
  rw [show v7 = v2 from ev7.trans ev2.symm] at psB
  obtain ⟨hre, hrl⟩ := R4IMG hR.1 psA psB
  refine pe_pop (by decide +kernel) rfl ?_
  refine pe_goto (off := 26) (t := 2477) (by decide +kernel) (by decide) rfl ?_
  exact kk _ _ _ _ _ ⟨hIq3, hIq8, (RL5_t rfl rfl hrl hR)⟩
set_option maxRecDepth 100000 in
set_option maxHeartbeats 8000000 in
theorem LC_41 {xs : List Int32} {Q : pm_R → Prop} {f : Nat → Int32} {A : Nat → List Int32} {R : Nat → Value} {g : Nat → Int32} {B : Nat → List Int32} {x3 : Int32} (h3 : 0 ≤ x3.toInt) (h4 : x3.toInt + 7 ≤ xs.length) (hl : xs.length ≤ 3584) (hS : ST f A R g B) (kk : ∀ (f' : Nat → Int32) (A' : Nat → List Int32) (R' : Nat → Value) (g' : Nat → Int32) (B' : Nat → List Int32), ST f' A' R' g' B' → pmE pg (pg_X xs) pg_tyl pg_cl 41 318 2477 [.retAddr 0, .ref 0, .ref 147, .int x3] [] (cd f' A' R' (em g' B')) Q) : pmE pg (pg_X xs) pg_tyl pg_cl 41 318 2454 [.retAddr 0, .ref 0, .ref 147, .int x3] [] (cd f A R (em g B)) Q := by
  obtain ⟨hC, hM, hR⟩ := hS
  refine pe_aload_n (j := 1) (by decide +kernel) rfl ?_
  refine pe_aloadX_n (j := 0) (by decide +kernel) rfl ?_
  refine pe_iload_n (j := 3) (by decide +kernel) rfl ?_
  refine pe_iconstv (n := 1) (v := 1) (by decide +kernel) (by decide +kernel) ?_
  refine pz_add (by decide +kernel) rfl kz_1 (by omega) (by omega) (fun z1 hz1 => ?_)
  refine pz_ialdX (n := xs.length) (by decide +kernel) (show pg_X xs 0 = some (0, xs, 0) from rfl) rfl hz1 (by omega) (by omega) (fun v2 ev2 => ?_)
  clear hz1
  refine pz_callV (j := 190) (mj := 72) (by decide +kernel) (cll_V (args := [.int v2]) (n := 1) (by decide +kernel) rfl rfl cd_o0 (by decide +kernel) (Nat.le_of_ble_eq_true rfl) (Nat.le_of_ble_eq_true rfl)) ((pmE_PS (CM_72 st_XO hC))) (fun q3a q3b q3c q3d hqq3 => ?_)
  obtain ⟨⟨f4, A5, rq3, eq3, hIq3, hGq3, hFq3, kq3⟩, kpq3⟩ := hqq3
  cases eq3
  refine ⟨rfl, rfl, ?_⟩
  show pmE pg (pg_X xs) pg_tyl pg_cl 41 318 2463 [.retAddr 0, .ref 0, .ref 147, .int x3] [.int rq3] (cd f4 A5 R (em g B)) _
  refine pe_pop (by decide +kernel) rfl ?_
  refine pe_aload_n (j := 2) (by decide +kernel) rfl ?_
  refine pe_aloadX_n (j := 0) (by decide +kernel) rfl ?_
  refine pe_iload_n (j := 3) (by decide +kernel) rfl ?_
  refine pe_iconstv (n := 1) (v := 1) (by decide +kernel) (by decide +kernel) ?_
  refine pz_add (by decide +kernel) rfl kz_1 (by omega) (by omega) (fun z6 hz6 => ?_)
  refine pz_ialdX (n := xs.length) (by decide +kernel) (show pg_X xs 0 = some (0, xs, 0) from rfl) rfl hz6 (by omega) (by omega) (fun v7 ev7 => ?_)
  clear hz6
  show pmE pg (pg_X xs) pg_tyl pg_cl 41 318 2470 [.retAddr 0, .ref 0, .ref 147, .int x3] [.int v7, .ref 147] (md (cc f4 A5 R) g B) _
  refine pz_callV (j := 193) (mj := 317) (by decide +kernel) (cll_V (args := [.int v7]) (n := 1) (by decide +kernel) rfl rfl (md_o cc_len) (by decide +kernel) (Nat.le_of_ble_eq_true rfl) (Nat.le_of_ble_eq_true rfl)) ((pmE_PS (NM_317 cc_len hM))) (fun q8a q8b q8c q8d hqq8 => ?_)
  obtain ⟨⟨B9, rq8, eq8, hIq8, hFq8, kq8⟩, kpq8⟩ := hqq8
  cases eq8
  refine ⟨rfl, rfl, ?_⟩
  show pmE pg (pg_X xs) pg_tyl pg_cl 41 318 2473 [.retAddr 0, .ref 0, .ref 147, .int x3] [.int rq8] (cd f4 A5 R (em g B9)) _
  obtain ⟨kA, psA⟩ := kpq3
  obtain ⟨kB, psB⟩ := kpq8
  have psA : PS (pg_X xs) kA 72 0 [.ref 0, .int v2] [] (cd f A R (em g B)) (some (.int rq3)) (cd f4 A5 R (em g B)) := psA
  have psB : PS (pg_X xs) kB 317 0 [.ref 147, .int v7, pm_dead] [] (cd f4 A5 R (em g B)) (some (.int rq8)) (cd f4 A5 R (em g B9)) := psB
  rw [show v7 = v2 from ev7.trans ev2.symm] at psB
  obtain ⟨hre, hrl⟩ := R4AGN hR.1 psA psB
  refine pe_pop (by decide +kernel) rfl ?_
  refine pe_goto (off := 3) (t := 2477) (by decide +kernel) (by decide) rfl ?_
  exact kk _ _ _ _ _ ⟨hIq3, hIq8, (RL5_t rfl rfl hrl hR)⟩
end
