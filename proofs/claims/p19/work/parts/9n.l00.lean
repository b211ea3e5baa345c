section
set_option maxRecDepth 100000 in
set_option maxHeartbeats 8000000 in
theorem LC_0 {xs : List Int32} {Q : pm_R → Prop} {f : Nat → Int32} {A : Nat → List Int32} {R : Nat → Value} {g : Nat → Int32} {B : Nat → List Int32} {x3 : Int32} (h3 : 0 ≤ x3.toInt) (h4 : x3.toInt + 7 ≤ xs.length) (hl : xs.length ≤ 3584) (hS : ST f A R g B) (kk : ∀ (f' : Nat → Int32) (A' : Nat → List Int32) (R' : Nat → Value) (g' : Nat → Int32) (B' : Nat → List Int32), ST f' A' R' g' B' → pmE pg (pg_X xs) pg_tyl pg_cl 41 318 2477 [.retAddr 0, .ref 0, .ref 147, .int x3] [] (cd f' A' R' (em g' B')) Q) : pmE pg (pg_X xs) pg_tyl pg_cl 41 318 216 [.retAddr 0, .ref 0, .ref 147, .int x3] [] (cd f A R (em g B)) Q := by
  obtain ⟨hC, hM, hR⟩ := hS
  refine pe_aload_n (j := 1) (by decide +kernel) rfl ?_
  refine pe_aloadX_n (j := 0) (by decide +kernel) rfl ?_
  refine pe_iload_n (j := 3) (by decide +kernel) rfl ?_
  refine pe_iconstv (n := 1) (v := 1) (by decide +kernel) (by decide +kernel) ?_
  refine pz_add (by decide +kernel) rfl kz_1 (by omega) (by omega) (fun z1 hz1 => ?_)
  refine pz_ialdX (n := xs.length) (by decide +kernel) (show pg_X xs 0 = some (0, xs, 0) from rfl) rfl hz1 (by omega) (by omega) (fun v2 ev2 => ?_)
  clear hz1
  refine pe_aloadX_n (j := 0) (by decide +kernel) rfl ?_
  refine pe_iload_n (j := 3) (by decide +kernel) rfl ?_
  refine pe_iconstv (n := 2) (v := 2) (by decide +kernel) (by decide +kernel) ?_
  refine pz_add (by decide +kernel) rfl kz_2 (by omega) (by omega) (fun z3 hz3 => ?_)
  refine pz_ialdX (n := xs.length) (by decide +kernel) (show pg_X xs 0 = some (0, xs, 0) from rfl) rfl hz3 (by omega) (by omega) (fun v4 ev4 => ?_)
  clear hz3
  refine pe_aloadX_n (j := 0) (by decide +kernel) rfl ?_
  refine pe_iload_n (j := 3) (by decide +kernel) rfl ?_
  refine pe_iconstv (n := 3) (v := 3) (by decide +kernel) (by decide +kernel) ?_
  refine pz_add (by decide +kernel) rfl kz_3 (by omega) (by omega) (fun z5 hz5 => ?_)
  refine pz_ialdX (n := xs.length) (by decide +kernel) (show pg_X xs 0 = some (0, xs, 0) from rfl) rfl hz5 (by omega) (by omega) (fun v6 ev6 => ?_)
  clear hz5
  refine pe_aloadX_n (j := 0) (by decide +kernel) rfl ?_
  refine pe_iload_n (j := 3) (by decide +kernel) rfl ?_
  refine pe_iconstv (n := 4) (v := 4) (by decide +kernel) (by decide +kernel) ?_
  refine pz_add (by decide +kernel) rfl kz_4 (by omega) (by omega) (fun z7 hz7 => ?_)
  refine pz_ialdX (n := xs.length) (by decide +kernel) (show pg_X xs 0 = some (0, xs, 0) from rfl) rfl hz7 (by omega) (by omega) (fun v8 ev8 => ?_)
  clear hz7
  refine pe_aloadX_n (j := 0) (by decide +kernel) rfl ?_
  refine pe_iload_n (j := 3) (by decide +kernel) rfl ?_
  refine pe_iconstv (n := 5) (v := 5) (by decide +kernel) (by decide +kernel) ?_
  refine pz_add (by decide +kernel) rfl kz_5 (by omega) (by omega) (fun z9 hz9 => ?_)
  refine pz_ialdX (n := xs.length) (by decide +kernel) (show pg_X xs 0 = some (0, xs, 0) from rfl) rfl hz9 (by omega) (by omega) (fun v10 ev10 => ?_)
  clear hz9
  refine pz_callV (j := 13) (mj := 13) (by decide +kernel) (cll_V (args := [.int v10, .int v8, .int v6, .int v4, .int v2]) (n := 5) (by decide +kernel) rfl rfl cd_o0 (by decide +kernel) (Nat.le_of_ble_eq_true rfl) (Nat.le_of_ble_eq_true rfl)) ((pmE_PS (CM_13 st_XO hC))) (fun q11a q11b q11c q11d hqq11 => ?_)
  obtain ⟨⟨f12, A13, rq11, eq11, hIq11, hGq11, hFq11, kq11⟩, kpq11⟩ := hqq11
  cases eq11
  refine ⟨rfl, rfl, ?_⟩
  show pmE pg (pg_X xs) pg_tyl pg_cl 41 318 245 [.retAddr 0, .ref 0, .ref 147, .int x3] [.int rq11] (cd f12 A13 R (em g B)) _
  refine pe_pop (by decide +kernel) rfl ?_
  refine pe_aload_n (j := 2) (by decide +kernel) rfl ?_
  refine pe_aloadX_n (j := 0) (by decide +kernel) rfl ?_
  refine pe_iload_n (j := 3) (by decide +kernel) rfl ?_
  refine pe_iconstv (n := 1) (v := 1) (by decide +kernel) (by decide +kernel) ?_
  refine pz_add (by decide +kernel) rfl kz_1 (by omega) (by omega) (fun z14 hz14 => ?_)
  refine pz_ialdX (n := xs.length) (by decide +kernel) (show pg_X xs 0 = some (0, xs, 0) from rfl) rfl hz14 (by omega) (by omega) (fun v15 ev15 => ?_)
  clear hz14
  refine pe_aloadX_n (j := 0) (by decide +kernel) rfl ?_
  refine pe_iload_n (j := 3) (by decide +kernel) rfl ?_
  refine pe_iconstv (n := 2) (v := 2) (by decide +kernel) (by decide +kernel) ?_
  refine pz_add (by decide +kernel) rfl kz_2 (by omega) (by omega) (fun z16 hz16 => ?_)
  refine pz_ialdX (n := xs.length) (by decide +kernel) (show pg_X xs 0 = some (0, xs, 0) from rfl) rfl hz16 (by omega) (by omega) (fun v17 ev17 => ?_)
  clear hz16
  refine pe_aloadX_n (j := 0) (by decide +kernel) rfl ?_
  refine pe_iload_n (j := 3) (by decide +kernel) rfl ?_
  refine pe_iconstv (n := 3) (v := 3) (by decide +kernel) (by decide +kernel) ?_
  refine pz_add (by decide +kernel) rfl kz_3 (by omega) (by omega) (fun z18 hz18 => ?_)
  refine pz_ialdX (n := xs.length) (by decide +kernel) (show pg_X xs 0 = some (0, xs, 0) from rfl) rfl hz18 (by omega) (by omega) (fun v19 ev19 => ?_)
  clear hz18
  refine pe_aloadX_n (j := 0) (by decide +kernel) rfl ?_
  refine pe_iload_n (j := 3) (by decide +kernel) rfl ?_
  refine pe_iconstv (n := 4) (v := 4) (by decide +kernel) (by decide +kernel) ?_
  refine pz_add (by decide +kernel) rfl kz_4 (by omega) (by omega) (fun z20 hz20 => ?_)
  refine pz_ialdX (n := xs.length) (by decide +kernel) (show pg_X xs 0 = some (0, xs, 0) from rfl) rfl hz20 (by omega) (by omega) (fun v21 ev21 => ?_)
  clear hz20
  refine pe_aloadX_n (j := 0) (by decide +kernel) rfl ?_
  refine pe_iload_n (j := 3) (by decide +kernel) rfl ?_
  refine pe_iconstv (n := 5) (v := 5) (by decide +kernel) (by decide +kernel) ?_
  refine pz_add (by decide +kernel) rfl kz_5 (by omega) (by omega) (fun z22 hz22 => ?_)
  refine pz_ialdX (n := xs.length) (by decide +kernel) (show pg_X xs 0 = some (0, xs, 0) from rfl) rfl hz22 (by omega) (by omega) (fun v23 ev23 => ?_)
  clear hz22
  show pmE pg (pg_X xs) pg_tyl pg_cl 41 318 272 [.retAddr 0, .ref 0, .ref 147, .int x3] [.int v23, .int v21, .int v19, .int v17, .int v15, .ref 147] (md (cc f12 A13 R) g B) _
  refine pz_callV (j := 17) (mj := 196) (by decide +kernel) (cll_V (args := [.int v23, .int v21, .int v19, .int v17, .int v15]) (n := 5) (by decide +kernel) rfl rfl (md_o cc_len) (by decide +kernel) (Nat.le_of_ble_eq_true rfl) (Nat.le_of_ble_eq_true rfl)) ((pmE_PS (NM_196 cc_len hM))) (fun q24a q24b q24c q24d hqq24 => ?_)
  obtain ⟨⟨B25, rq24, eq24, hIq24, hFq24, kq24⟩, kpq24⟩ := hqq24
  cases eq24
  refine ⟨rfl, rfl, ?_⟩
  show pmE pg (pg_X xs) pg_tyl pg_cl 41 318 275 [.retAddr 0, .ref 0, .ref 147, .int x3] [.int rq24] (cd f12 A13 R (em g B25)) _
  obtain ⟨kA, psA⟩ := kpq11
  obtain ⟨kB, psB⟩ := kpq24
  have psA : PS (pg_X xs) kA 13 0 [.ref 0, .int v2, .int v4, .int v6, .int v8, .int v10] [] (cd f A R (em g B)) (some (.int rq11)) (cd f12 A13 R (em g B)) := psA
  have psB : PS (pg_X xs) kB 196 0 [.ref 147, .int v15, .int v17, .int v19, .int v21, .int v23, pm_dead, pm_dead] [] (cd f12 A13 R (em g B)) (some (.int rq24)) (cd f12 A13 R (em g B25)) := psB
  rw [show v15 = v2 from ev15.trans ev2.symm] at psB
  rw [show v17 = v4 from ev17.trans ev4.symm] at psB
  rw [show v19 = v6 from ev19.trans ev6.symm] at psB
  rw [show v21 = v8 from ev21.trans ev8.symm] at psB
  rw [show v23 = v10 from ev23.trans ev10.symm] at psB
  obtain ⟨hre, hrl⟩ := R4FEED hR.1 psA psB
  refine pe_pop (by decide +kernel) rfl ?_
  refine pe_goto (off := 2201) (t := 2477) (by decide +kernel) (by decide) rfl ?_
  exact kk _ _ _ _ _ ⟨hIq11, hIq24, (RL5_t rfl rfl hrl hR)⟩
set_option maxRecDepth 100000 in
set_option maxHeartbeats 8000000 in
theorem LC_1 {xs : List Int32} {Q : pm_R → Prop} {f : Nat → Int32} {A : Nat → List Int32} {R : Nat → Value} {g : Nat → Int32} {B : Nat → List Int32} {x3 : Int32} (h3 : 0 ≤ x3.toInt) (h4 : x3.toInt + 7 ≤ xs.length) (hl : xs.length ≤ 3584) (hS : ST f A R g B) (kk : ∀ (f' : Nat → Int32) (A' : Nat → List Int32) (R' : Nat → Value) (g' : Nat → Int32) (B' : Nat → List Int32), ST f' A' R' g' B' → pmE pg (pg_X xs) pg_tyl pg_cl 41 318 2477 [.retAddr 0, .ref 0, .ref 147, .int x3] [] (cd f' A' R' (em g' B')) Q) : pmE pg (pg_X xs) pg_tyl pg_cl 41 318 279 [.retAddr 0, .ref 0, .ref 147, .int x3] [] (cd f A R (em g B)) Q := by
  obtain ⟨hC, hM, hR⟩ := hS
  refine pe_aload_n (j := 1) (by decide +kernel) rfl ?_
  refine pe_aloadX_n (j := 0) (by decide +kernel) rfl ?_
  refine pe_iload_n (j := 3) (by decide +kernel) rfl ?_
  refine pe_iconstv (n := 1) (v := 1) (by decide +kernel) (by decide +kernel) ?_
  refine pz_add (by decide +kernel) rfl kz_1 (by omega) (by omega) (fun z1 hz1 => ?_)
  refine pz_ialdX (n := xs.length) (by decide +kernel) (show pg_X xs 0 = some (0, xs, 0) from rfl) rfl hz1 (by omega) (by omega) (fun v2 ev2 => ?_)
  clear hz1
  refine pz_callV (j := 18) (mj := 15) (by decide +kernel) (cll_V (args := [.int v2]) (n := 1) (by decide +kernel) rfl rfl cd_o0 (by decide +kernel) (Nat.le_of_ble_eq_true rfl) (Nat.le_of_ble_eq_true rfl)) ((pmE_PS (CM_15 st_XO hC))) (fun q3a q3b q3c q3d hqq3 => ?_)
  obtain ⟨⟨f4, rq3, eq3, hIq3, hGq3, kq3⟩, kpq3⟩ := hqq3
  cases eq3
  refine ⟨rfl, rfl, ?_⟩
  show pmE pg (pg_X xs) pg_tyl pg_cl 41 318 288 [.retAddr 0, .ref 0, .ref 147, .int x3] [.int rq3] (cd f4 A R (em g B)) _
  refine pe_pop (by decide +kernel) rfl ?_
  refine pe_aload_n (j := 2) (by decide +kernel) rfl ?_
  refine pe_aloadX_n (j := 0) (by decide +kernel) rfl ?_
  refine pe_iload_n (j := 3) (by decide +kernel) rfl ?_
  refine pe_iconstv (n := 1) (v := 1) (by decide +kernel) (by decide +kernel) ?_
  refine pz_add (by decide +kernel) rfl kz_1 (by omega) (by omega) (fun z5 hz5 => ?_)
  refine pz_ialdX (n := xs.length) (by decide +kernel) (show pg_X xs 0 = some (0, xs, 0) from rfl) rfl hz5 (by omega) (by omega) (fun v6 ev6 => ?_)
  clear hz5
  show pmE pg (pg_X xs) pg_tyl pg_cl 41 318 295 [.retAddr 0, .ref 0, .ref 147, .int x3] [.int v6, .ref 147] (md (cc f4 A R) g B) _
  refine pz_callV (j := 22) (mj := 197) (by decide +kernel) (cll_V (args := [.int v6]) (n := 1) (by decide +kernel) rfl rfl (md_o cc_len) (by decide +kernel) (Nat.le_of_ble_eq_true rfl) (Nat.le_of_ble_eq_true rfl)) ((pmE_PS (NM_197 cc_len hM))) (fun q7a q7b q7c q7d hqq7 => ?_)
  obtain ⟨⟨B8, rq7, eq7, hIq7, hFq7, kq7⟩, kpq7⟩ := hqq7
  cases eq7
  refine ⟨rfl, rfl, ?_⟩
  show pmE pg (pg_X xs) pg_tyl pg_cl 41 318 298 [.retAddr 0, .ref 0, .ref 147, .int x3] [.int rq7] (cd f4 A R (em g B8)) _
  obtain ⟨kA, psA⟩ := kpq3
  obtain ⟨kB, psB⟩ := kpq7
  have psA : PS (pg_X xs) kA 15 0 [.ref 0, .int v2] [] (cd f A R (em g B)) (some (.int rq3)) (cd f4 A R (em g B)) := psA
  have psB : PS (pg_X xs) kB 197 0 [.ref 147, .int v6] [] (cd f4 A R (em g B)) (some (.int rq7)) (cd f4 A R (em g B8)) := psB
  rw [show v6 = v2 from ev6.trans ev2.symm] at psB
  obtain ⟨hre, hrl⟩ := R4ENDS hR.1 psA psB
  refine pe_pop (by decide +kernel) rfl ?_
  refine pe_goto (off := 2178) (t := 2477) (by decide +kernel) (by decide) rfl ?_
  exact kk _ _ _ _ _ ⟨hIq3, hIq7, (RL5_t rfl rfl hrl hR)⟩
set_option maxRecDepth 100000 in
set_option maxHeartbeats 8000000 in
theorem LC_2 {xs : List Int32} {Q : pm_R → Prop} {f : Nat → Int32} {A : Nat → List Int32} {R : Nat → Value} {g : Nat → Int32} {B : Nat → List Int32} {x3 : Int32} (h3 : 0 ≤ x3.toInt) (h4 : x3.toInt + 7 ≤ xs.length) (hl : xs.length ≤ 3584) (hS : ST f A R g B) (kk : ∀ (f' : Nat → Int32) (A' : Nat → List Int32) (R' : Nat → Value) (g' : Nat → Int32) (B' : Nat → List Int32), ST f' A' R' g' B' → pmE pg (pg_X xs) pg_tyl pg_cl 41 318 2477 [.retAddr 0, .ref 0, .ref 147, .int x3] [] (cd f' A' R' (em g' B')) Q) : pmE pg (pg_X xs) pg_tyl pg_cl 41 318 302 [.retAddr 0, .ref 0, .ref 147, .int x3] [] (cd f A R (em g B)) Q := by
  obtain ⟨hC, hM, hR⟩ := hS
  refine pe_aload_n (j := 1) (by decide +kernel) rfl ?_
  refine pe_aloadX_n (j := 0) (by decide +kernel) rfl ?_
  refine pe_iload_n (j := 3) (by decide +kernel) rfl ?_
  refine pe_iconstv (n := 1) (v := 1) (by decide +kernel) (by decide +kernel) ?_
  refine pz_add (by decide +kernel) rfl kz_1 (by omega) (by omega) (fun z1 hz1 => ?_)
  refine pz_ialdX (n := xs.length) (by decide +kernel) (show pg_X xs 0 = some (0, xs, 0) from rfl) rfl hz1 (by omega) (by omega) (fun v2 ev2 => ?_)
  clear hz1
  refine pe_aloadX_n (j := 0) (by decide +kernel) rfl ?_
  refine pe_iload_n (j := 3) (by decide +kernel) rfl ?_
  refine pe_iconstv (n := 2) (v := 2) (by decide +kernel) (by decide +kernel) ?_
  refine pz_add (by decide +kernel) rfl kz_2 (by omega) (by omega) (fun z3 hz3 => ?_)
  refine pz_ialdX (n := xs.length) (by decide +kernel) (show pg_X xs 0 = some (0, xs, 0) from rfl) rfl hz3 (by omega) (by omega) (fun v4 ev4 => ?_)
  clear hz3
  refine pz_callV (j := 23) (mj := 16) (by decide +kernel) (cll_V (args := [.int v4, .int v2]) (n := 2) (by decide +kernel) rfl rfl cd_o0 (by decide +kernel) (Nat.le_of_ble_eq_true rfl) (Nat.le_of_ble_eq_true rfl)) ((pmE_PS (CM_16 st_XO hC))) (fun q5a q5b q5c q5d hqq5 => ?_)
  obtain ⟨⟨f6, A7, R8, rq5, eq5, hIq5, hGq5, hFq5, hHq5, hX0q5, kq5⟩, kpq5⟩ := hqq5
  cases eq5
  refine ⟨rfl, rfl, ?_⟩
  show pmE pg (pg_X xs) pg_tyl pg_cl 41 318 316 [.retAddr 0, .ref 0, .ref 147, .int x3] [.int rq5] (cd f6 A7 R8 (em g B)) _
  refine pe_pop (by decide +kernel) rfl ?_
  refine pe_aload_n (j := 2) (by decide +kernel) rfl ?_
  refine pe_aloadX_n (j := 0) (by decide +kernel) rfl ?_
  refine pe_iload_n (j := 3) (by decide +kernel) rfl ?_
  refine pe_iconstv (n := 1) (v := 1) (by decide +kernel) (by decide +kernel) ?_
  refine pz_add (by decide +kernel) rfl kz_1 (by omega) (by omega) (fun z9 hz9 => ?_)
  refine pz_ialdX (n := xs.length) (by decide +kernel) (show pg_X xs 0 = some (0, xs, 0) from rfl) rfl hz9 (by omega) (by omega) (fun v10 ev10 => ?_)
  clear hz9
  refine pe_aloadX_n (j := 0) (by decide +kernel) rfl ?_
  refine pe_iload_n (j := 3) (by decide +kernel) rfl ?_
  refine pe_iconstv (n := 2) (v := 2) (by decide +kernel) (by decide +kernel) ?_
  refine pz_add (by decide +kernel) rfl kz_2 (by omega) (by omega) (fun z11 hz11 => ?_)
  refine pz_ialdX (n := xs.length) (by decide +kernel) (show pg_X xs 0 = some (0, xs, 0) from rfl) rfl hz11 (by omega) (by omega) (fun v12 ev12 => ?_)
  clear hz11
  show pmE pg (pg_X xs) pg_tyl pg_cl 41 318 328 [.retAddr 0, .ref 0, .ref 147, .int x3] [.int v12, .int v10, .ref 147] (md (cc f6 A7 R8) g B) _
  refine pz_callV (j := 27) (mj := 198) (by decide +kernel) (cll_V (args := [.int v12, .int v10]) (n := 2) (by decide +kernel) rfl rfl (md_o cc_len) (by decide +kernel) (Nat.le_of_ble_eq_true rfl) (Nat.le_of_ble_eq_true rfl)) ((pmE_PS (NM_198 cc_len hM))) (fun q13a q13b q13c q13d hqq13 => ?_)
  obtain ⟨⟨g14, B15, rq13, eq13, hIq13, hGq13, hFq13, kq13⟩, kpq13⟩ := hqq13
  cases eq13
  refine ⟨rfl, rfl, ?_⟩
  show pmE pg (pg_X xs) pg_tyl pg_cl 41 318 331 [.retAddr 0, .ref 0, .ref 147, .int x3] [.int rq13] (cd f6 A7 R8 (em g14 B15)) _
  obtain ⟨kA, psA⟩ := kpq5
  obtain ⟨kB, psB⟩ := kpq13
  have psA : PS (pg_X xs) kA 16 0 [.ref 0, .int v2, .int v4, pm_dead, pm_dead] [] (cd f A R (em g B)) (some (.int rq5)) (cd f6 A7 R8 (em g B)) := psA
  have psB : PS (pg_X xs) kB 198 0 [.ref 147, .int v10, .int v12, pm_dead, pm_dead, pm_dead] [] (cd f6 A7 R8 (em g B)) (some (.int rq13)) (cd f6 A7 R8 (em g14 B15)) := psB
  rw [show v10 = v2 from ev10.trans ev2.symm] at psB
  rw [show v12 = v4 from ev12.trans ev4.symm] at psB
  obtain ⟨hre, hrl⟩ := R4TXT st_XO hR.1 psA psB
  refine pe_pop (by decide +kernel) rfl ?_
  refine pe_goto (off := 2145) (t := 2477) (by decide +kernel) (by decide) rfl ?_
  exact kk _ _ _ _ _ ⟨hIq5, hIq13, (RL5_t (hGq13 31 (by decide) (by decide) (by decide) (by decide) (by decide) (by decide) (by decide) (by decide)) (hGq13 32 (by decide) (by decide) (by decide) (by decide) (by decide) (by decide) (by decide) (by decide)) hrl hR)⟩
set_option maxRecDepth 100000 in
set_option maxHeartbeats 8000000 in
theorem LC_3 {xs : List Int32} {Q : pm_R → Prop} {f : Nat → Int32} {A : Nat → List Int32} {R : Nat → Value} {g : Nat → Int32} {B : Nat → List Int32} {x3 : Int32} (h3 : 0 ≤ x3.toInt) (h4 : x3.toInt + 7 ≤ xs.length) (hl : xs.length ≤ 3584) (hS : ST f A R g B) (kk : ∀ (f' : Nat → Int32) (A' : Nat → List Int32) (R' : Nat → Value) (g' : Nat → Int32) (B' : Nat → List Int32), ST f' A' R' g' B' → pmE pg (pg_X xs) pg_tyl pg_cl 41 318 2477 [.retAddr 0, .ref 0, .ref 147, .int x3] [] (cd f' A' R' (em g' B')) Q) : pmE pg (pg_X xs) pg_tyl pg_cl 41 318 335 [.retAddr 0, .ref 0, .ref 147, .int x3] [] (cd f A R (em g B)) Q := by
  obtain ⟨hC, hM, hR⟩ := hS
  refine pe_aload_n (j := 1) (by decide +kernel) rfl ?_
  refine pe_aloadX_n (j := 0) (by decide +kernel) rfl ?_
  refine pe_iload_n (j := 3) (by decide +kernel) rfl ?_
  refine pe_iconstv (n := 1) (v := 1) (by decide +kernel) (by decide +kernel) ?_
  refine pz_add (by decide +kernel) rfl kz_1 (by omega) (by omega) (fun z1 hz1 => ?_)
  refine pz_ialdX (n := xs.length) (by decide +kernel) (show pg_X xs 0 = some (0, xs, 0) from rfl) rfl hz1 (by omega) (by omega) (fun v2 ev2 => ?_)
  clear hz1
  refine pz_callV (j := 28) (mj := 58) (by decide +kernel) (cll_V (args := [.int v2]) (n := 1) (by decide +kernel) rfl rfl cd_o0 (by decide +kernel) (Nat.le_of_ble_eq_true rfl) (Nat.le_of_ble_eq_true rfl)) (CM_58 st_XO hC) (fun q3a q3b q3c q3d hqq3 => ?_)
  obtain ⟨rq3, eq3, kq3⟩ := hqq3
  cases eq3
  refine ⟨rfl, rfl, ?_⟩
  show pmE pg (pg_X xs) pg_tyl pg_cl 41 318 344 [.retAddr 0, .ref 0, .ref 147, .int x3] [.int rq3] (cd f A R (em g B)) _
  refine pe_pop (by decide +kernel) rfl ?_
  refine pe_aload_n (j := 2) (by decide +kernel) rfl ?_
  refine pe_aloadX_n (j := 0) (by decide +kernel) rfl ?_
  refine pe_iload_n (j := 3) (by decide +kernel) rfl ?_
  refine pe_iconstv (n := 1) (v := 1) (by decide +kernel) (by decide +kernel) ?_
  refine pz_add (by decide +kernel) rfl kz_1 (by omega) (by omega) (fun z4 hz4 => ?_)
  refine pz_ialdX (n := xs.length) (by decide +kernel) (show pg_X xs 0 = some (0, xs, 0) from rfl) rfl hz4 (by omega) (by omega) (fun v5 ev5 => ?_)
  clear hz4
  show pmE pg (pg_X xs) pg_tyl pg_cl 41 318 351 [.retAddr 0, .ref 0, .ref 147, .int x3] [.int v5, .ref 147] (md (cc f A R) g B) _
  refine pz_callV (j := 31) (mj := 218) (by decide +kernel) (cll_V (args := [.int v5]) (n := 1) (by decide +kernel) rfl rfl (md_o cc_len) (by decide +kernel) (Nat.le_of_ble_eq_true rfl) (Nat.le_of_ble_eq_true rfl)) (MM_218 cc_len hM) (fun q6a q6b q6c q6d hqq6 => ?_)
  obtain ⟨rq6, eq6, kq6⟩ := hqq6
  cases eq6
  refine ⟨rfl, rfl, ?_⟩
  show pmE pg (pg_X xs) pg_tyl pg_cl 41 318 354 [.retAddr 0, .ref 0, .ref 147, .int x3] [.int rq6] (cd f A R (em g B)) _
  refine pe_pop (by decide +kernel) rfl ?_
  refine pe_goto (off := 2122) (t := 2477) (by decide +kernel) (by decide) rfl ?_
  exact kk _ _ _ _ _ ⟨hC, hM, (RL5_t rfl rfl (RL4_fr hC hM (fun _ _ => rfl) (fun _ _ => rfl) rfl rfl hR.1) hR)⟩
set_option maxRecDepth 100000 in
set_option maxHeartbeats 8000000 in
theorem LC_4 {xs : List Int32} {Q : pm_R → Prop} {f : Nat → Int32} {A : Nat → List Int32} {R : Nat → Value} {g : Nat → Int32} {B : Nat → List Int32} {x3 : Int32} (h3 : 0 ≤ x3.toInt) (h4 : x3.toInt + 7 ≤ xs.length) (hl : xs.length ≤ 3584) (hS : ST f A R g B) (kk : ∀ (f' : Nat → Int32) (A' : Nat → List Int32) (R' : Nat → Value) (g' : Nat → Int32) (B' : Nat → List Int32), ST f' A' R' g' B' → pmE pg (pg_X xs) pg_tyl pg_cl 41 318 2477 [.retAddr 0, .ref 0, .ref 147, .int x3] [] (cd f' A' R' (em g' B')) Q) : pmE pg (pg_X xs) pg_tyl pg_cl 41 318 358 [.retAddr 0, .ref 0, .ref 147, .int x3] [] (cd f A R (em g B)) Q := by
  obtain ⟨hC, hM, hR⟩ := hS
  refine pe_aload_n (j := 1) (by decide +kernel) rfl ?_
  refine pe_aloadX_n (j := 0) (by decide +kernel) rfl ?_
  refine pe_iload_n (j := 3) (by decide +kernel) rfl ?_
  refine pe_iconstv (n := 1) (v := 1) (by decide +kernel) (by decide +kernel) ?_
  refine pz_add (by decide +kernel) rfl kz_1 (by omega) (by omega) (fun z1 hz1 => ?_)
  refine pz_ialdX (n := xs.length) (by decide +kernel) (show pg_X xs 0 = some (0, xs, 0) from rfl) rfl hz1 (by omega) (by omega) (fun v2 ev2 => ?_)
  clear hz1
  refine pe_aloadX_n (j := 0) (by decide +kernel) rfl ?_
  refine pe_iload_n (j := 3) (by decide +kernel) rfl ?_
  refine pe_iconstv (n := 2) (v := 2) (by decide +kernel) (by decide +kernel) ?_
  refine pz_add (by decide +kernel) rfl kz_2 (by omega) (by omega) (fun z3 hz3 => ?_)
  refine pz_ialdX (n := xs.length) (by decide +kernel) (show pg_X xs 0 = some (0, xs, 0) from rfl) rfl hz3 (by omega) (by omega) (fun v4 ev4 => ?_)
  clear hz3
  refine pz_callV (j := 32) (mj := 59) (by decide +kernel) (cll_V (args := [.int v4, .int v2]) (n := 2) (by decide +kernel) rfl rfl cd_o0 (by decide +kernel) (Nat.le_of_ble_eq_true rfl) (Nat.le_of_ble_eq_true rfl)) (CM_59 st_XO hC) (fun q5a q5b q5c q5d hqq5 => ?_)
  obtain ⟨rq5, eq5, kq5⟩ := hqq5
  cases eq5
  refine ⟨rfl, rfl, ?_⟩
  show pmE pg (pg_X xs) pg_tyl pg_cl 41 318 372 [.retAddr 0, .ref 0, .ref 147, .int x3] [.int rq5] (cd f A R (em g B)) _
  refine pe_pop (by decide +kernel) rfl ?_
  refine pe_aload_n (j := 2) (by decide +kernel) rfl ?_
  refine pe_aloadX_n (j := 0) (by decide +kernel) rfl ?_
  refine pe_iload_n (j := 3) (by decide +kernel) rfl ?_
  refine pe_iconstv (n := 1) (v := 1) (by decide +kernel) (by decide +kernel) ?_
  refine pz_add (by decide +kernel) rfl kz_1 (by omega) (by omega) (fun z6 hz6 => ?_)
  refine pz_ialdX (n := xs.length) (by decide +kernel) (show pg_X xs 0 = some (0, xs, 0) from rfl) rfl hz6 (by omega) (by omega) (fun v7 ev7 => ?_)
  clear hz6
  refine pe_aloadX_n (j := 0) (by decide +kernel) rfl ?_
  refine pe_iload_n (j := 3) (by decide +kernel) rfl ?_
  refine pe_iconstv (n := 2) (v := 2) (by decide +kernel) (by decide +kernel) ?_
  refine pz_add (by decide +kernel) rfl kz_2 (by omega) (by omega) (fun z8 hz8 => ?_)
  refine pz_ialdX (n := xs.length) (by decide +kernel) (show pg_X xs 0 = some (0, xs, 0) from rfl) rfl hz8 (by omega) (by omega) (fun v9 ev9 => ?_)
  clear hz8
  show pmE pg (pg_X xs) pg_tyl pg_cl 41 318 384 [.retAddr 0, .ref 0, .ref 147, .int x3] [.int v9, .int v7, .ref 147] (md (cc f A R) g B) _
  refine pz_callV (j := 35) (mj := 219) (by decide +kernel) (cll_V (args := [.int v9, .int v7]) (n := 2) (by decide +kernel) rfl rfl (md_o cc_len) (by decide +kernel) (Nat.le_of_ble_eq_true rfl) (Nat.le_of_ble_eq_true rfl)) (MM_219 cc_len hM) (fun q10a q10b q10c q10d hqq10 => ?_)
  obtain ⟨rq10, eq10, kq10⟩ := hqq10
  cases eq10
  refine ⟨rfl, rfl, ?_⟩
  show pmE pg (pg_X xs) pg_tyl pg_cl 41 318 387 [.retAddr 0, .ref 0, .ref 147, .int x3] [.int rq10] (cd f A R (em g B)) _
  refine pe_pop (by decide +kernel) rfl ?_
  refine pe_goto (off := 2089) (t := 2477) (by decide +kernel) (by decide) rfl ?_
  exact kk _ _ _ _ _ ⟨hC, hM, (RL5_t rfl rfl (RL4_fr hC hM (fun _ _ => rfl) (fun _ _ => rfl) rfl rfl hR.1) hR)⟩
set_option maxRecDepth 100000 in
set_option maxHeartbeats 8000000 in
theorem LC_5 {xs : List Int32} {Q : pm_R → Prop} {f : Nat → Int32} {A : Nat → List Int32} {R : Nat → Value} {g : Nat → Int32} {B : Nat → List Int32} {x3 : Int32} (h3 : 0 ≤ x3.toInt) (h4 : x3.toInt + 7 ≤ xs.length) (hl : xs.length ≤ 3584) (hS : ST f A R g B) (kk : ∀ (f' : Nat → Int32) (A' : Nat → List Int32) (R' : Nat → Value) (g' : Nat → Int32) (B' : Nat → List Int32), ST f' A' R' g' B' → pmE pg (pg_X xs) pg_tyl pg_cl 41 318 2477 [.retAddr 0, .ref 0, .ref 147, .int x3] [] (cd f' A' R' (em g' B')) Q) : pmE pg (pg_X xs) pg_tyl pg_cl 41 318 391 [.retAddr 0, .ref 0, .ref 147, .int x3] [] (cd f A R (em g B)) Q := by
  obtain ⟨hC, hM, hR⟩ := hS
  refine pe_aload_n (j := 1) (by decide +kernel) rfl ?_
  refine pe_aloadX_n (j := 0) (by decide +kernel) rfl ?_
  refine pe_iload_n (j := 3) (by decide +kernel) rfl ?_
  refine pe_iconstv (n := 1) (v := 1) (by decide +kernel) (by decide +kernel) ?_
  refine pz_add (by decide +kernel) rfl kz_1 (by omega) (by omega) (fun z1 hz1 => ?_)
  refine pz_ialdX (n := xs.length) (by decide +kernel) (show pg_X xs 0 = some (0, xs, 0) from rfl) rfl hz1 (by omega) (by omega) (fun v2 ev2 => ?_)
  clear hz1
  refine pe_aloadX_n (j := 0) (by decide +kernel) rfl ?_
  refine pe_iload_n (j := 3) (by decide +kernel) rfl ?_
  refine pe_iconstv (n := 2) (v := 2) (by decide +kernel) (by decide +kernel) ?_
  refine pz_add (by decide +kernel) rfl kz_2 (by omega) (by omega) (fun z3 hz3 => ?_)
  refine pz_ialdX (n := xs.length) (by decide +kernel) (show pg_X xs 0 = some (0, xs, 0) from rfl) rfl hz3 (by omega) (by omega) (fun v4 ev4 => ?_)
  clear hz3
  refine pe_aloadX_n (j := 0) (by decide +kernel) rfl ?_
  refine pe_iload_n (j := 3) (by decide +kernel) rfl ?_
  refine pe_iconstv (n := 3) (v := 3) (by decide +kernel) (by decide +kernel) ?_
  refine pz_add (by decide +kernel) rfl kz_3 (by omega) (by omega) (fun z5 hz5 => ?_)
  refine pz_ialdX (n := xs.length) (by decide +kernel) (show pg_X xs 0 = some (0, xs, 0) from rfl) rfl hz5 (by omega) (by omega) (fun v6 ev6 => ?_)
  clear hz5
  refine pz_callV (j := 36) (mj := 62) (by decide +kernel) (cll_V (args := [.int v6, .int v4, .int v2]) (n := 3) (by decide +kernel) rfl rfl cd_o0 (by decide +kernel) (Nat.le_of_ble_eq_true rfl) (Nat.le_of_ble_eq_true rfl)) (CM_62 st_XO hC) (fun q7a q7b q7c q7d hqq7 => ?_)
  obtain ⟨rq7, eq7, kq7⟩ := hqq7
  cases eq7
  refine ⟨rfl, rfl, ?_⟩
  show pmE pg (pg_X xs) pg_tyl pg_cl 41 318 410 [.retAddr 0, .ref 0, .ref 147, .int x3] [.int rq7] (cd f A R (em g B)) _
  refine pe_pop (by decide +kernel) rfl ?_
  refine pe_aload_n (j := 2) (by decide +kernel) rfl ?_
  refine pe_aloadX_n (j := 0) (by decide +kernel) rfl ?_
  refine pe_iload_n (j := 3) (by decide +kernel) rfl ?_
  refine pe_iconstv (n := 1) (v := 1) (by decide +kernel) (by decide +kernel) ?_
  refine pz_add (by decide +kernel) rfl kz_1 (by omega) (by omega) (fun z8 hz8 => ?_)
  refine pz_ialdX (n := xs.length) (by decide +kernel) (show pg_X xs 0 = some (0, xs, 0) from rfl) rfl hz8 (by omega) (by omega) (fun v9 ev9 => ?_)
  clear hz8
  refine pe_aloadX_n (j := 0) (by decide +kernel) rfl ?_
  refine pe_iload_n (j := 3) (by decide +kernel) rfl ?_
  refine pe_iconstv (n := 2) (v := 2) (by decide +kernel) (by decide +kernel) ?_
  refine pz_add (by decide +kernel) rfl kz_2 (by omega) (by omega) (fun z10 hz10 => ?_)
  refine pz_ialdX (n := xs.length) (by decide +kernel) (show pg_X xs 0 = some (0, xs, 0) from rfl) rfl hz10 (by omega) (by omega) (fun v11 ev11 => ?_)
  clear hz10
  refine pe_aloadX_n (j := 0) (by decide +kernel) rfl ?_
  refine pe_iload_n (j := 3) (by decide +kernel) rfl ?_
  refine pe_iconstv (n := 3) (v := 3) (by decide +kernel) (by decide +kernel) ?_
  refine pz_add (by decide +kernel) rfl kz_3 (by omega) (by omega) (fun z12 hz12 => ?_)
  refine pz_ialdX (n := xs.length) (by decide +kernel) (show pg_X xs 0 = some (0, xs, 0) from rfl) rfl hz12 (by omega) (by omega) (fun v13 ev13 => ?_)
  clear hz12
  show pmE pg (pg_X xs) pg_tyl pg_cl 41 318 427 [.retAddr 0, .ref 0, .ref 147, .int x3] [.int v13, .int v11, .int v9, .ref 147] (md (cc f A R) g B) _
  refine pz_callV (j := 40) (mj := 220) (by decide +kernel) (cll_V (args := [.int v13, .int v11, .int v9]) (n := 3) (by decide +kernel) rfl rfl (md_o cc_len) (by decide +kernel) (Nat.le_of_ble_eq_true rfl) (Nat.le_of_ble_eq_true rfl)) (MM_220 cc_len hM) (fun q14a q14b q14c q14d hqq14 => ?_)
  obtain ⟨rq14, eq14, kq14⟩ := hqq14
  cases eq14
  refine ⟨rfl, rfl, ?_⟩
  show pmE pg (pg_X xs) pg_tyl pg_cl 41 318 430 [.retAddr 0, .ref 0, .ref 147, .int x3] [.int rq14] (cd f A R (em g B)) _
  refine pe_pop (by decide +kernel) rfl ?_
  refine pe_goto (off := 2046) (t := 2477) (by decide +kernel) (by decide) rfl ?_
  exact kk _ _ _ _ _ ⟨hC, hM, (RL5_t rfl rfl (RL4_fr hC hM (fun _ _ => rfl) (fun _ _ => rfl) rfl rfl hR.1) hR)⟩
set_option maxRecDepth 100000 in
set_option maxHeartbeats 8000000 in
theorem LC_6 {xs : List Int32} {Q : pm_R → Prop} {f : Nat → Int32} {A : Nat → List Int32} {R : Nat → Value} {g : Nat → Int32} {B : Nat → List Int32} {x3 : Int32} (h3 : 0 ≤ x3.toInt) (h4 : x3.toInt + 7 ≤ xs.length) (hl : xs.length ≤ 3584) (hS : ST f A R g B) (kk : ∀ (f' : Nat → Int32) (A' : Nat → List Int32) (R' : Nat → Value) (g' : Nat → Int32) (B' : Nat → List Int32), ST f' A' R' g' B' → pmE pg (pg_X xs) pg_tyl pg_cl 41 318 2477 [.retAddr 0, .ref 0, .ref 147, .int x3] [] (cd f' A' R' (em g' B')) Q) : pmE pg (pg_X xs) pg_tyl pg_cl 41 318 434 [.retAddr 0, .ref 0, .ref 147, .int x3] [] (cd f A R (em g B)) Q := by
  obtain ⟨hC, hM, hR⟩ := hS
  refine pe_aload_n (j := 1) (by decide +kernel) rfl ?_
  refine pe_aloadX_n (j := 0) (by decide +kernel) rfl ?_
  refine pe_iload_n (j := 3) (by decide +kernel) rfl ?_
  refine pe_iconstv (n := 1) (v := 1) (by decide +kernel) (by decide +kernel) ?_
  refine pz_add (by decide +kernel) rfl kz_1 (by omega) (by omega) (fun z1 hz1 => ?_)
  refine pz_ialdX (n := xs.length) (by decide +kernel) (show pg_X xs 0 = some (0, xs, 0) from rfl) rfl hz1 (by omega) (by omega) (fun v2 ev2 => ?_)
  clear hz1
  refine pe_aloadX_n (j := 0) (by decide +kernel) rfl ?_
  refine pe_iload_n (j := 3) (by decide +kernel) rfl ?_
  refine pe_iconstv (n := 2) (v := 2) (by decide +kernel) (by decide +kernel) ?_
  refine pz_add (by decide +kernel) rfl kz_2 (by omega) (by omega) (fun z3 hz3 => ?_)
  refine pz_ialdX (n := xs.length) (by decide +kernel) (show pg_X xs 0 = some (0, xs, 0) from rfl) rfl hz3 (by omega) (by omega) (fun v4 ev4 => ?_)
  clear hz3
  refine pe_aloadX_n (j := 0) (by decide +kernel) rfl ?_
  refine pe_iload_n (j := 3) (by decide +kernel) rfl ?_
  refine pe_iconstv (n := 3) (v := 3) (by decide +kernel) (by decide +kernel) ?_
  refine pz_add (by decide +kernel) rfl kz_3 (by omega) (by omega) (fun z5 hz5 => ?_)
  refine pz_ialdX (n := xs.length) (by decide +kernel) (show pg_X xs 0 = some (0, xs, 0) from rfl) rfl hz5 (by omega) (by omega) (fun v6 ev6 => ?_)
  clear hz5
  refine pz_callV (j := 41) (mj := 63) (by decide +kernel) (cll_V (args := [.int v6, .int v4, .int v2]) (n := 3) (by decide +kernel) rfl rfl cd_o0 (by decide +kernel) (Nat.le_of_ble_eq_true rfl) (Nat.le_of_ble_eq_true rfl)) (CM_63 st_XO hC) (fun q7a q7b q7c q7d hqq7 => ?_)
  obtain ⟨rq7, eq7, kq7⟩ := hqq7
  cases eq7
  refine ⟨rfl, rfl, ?_⟩
  show pmE pg (pg_X xs) pg_tyl pg_cl 41 318 453 [.retAddr 0, .ref 0, .ref 147, .int x3] [.int rq7] (cd f A R (em g B)) _
  refine pe_pop (by decide +kernel) rfl ?_
  refine pe_aload_n (j := 2) (by decide +kernel) rfl ?_
  refine pe_aloadX_n (j := 0) (by decide +kernel) rfl ?_
  refine pe_iload_n (j := 3) (by decide +kernel) rfl ?_
  refine pe_iconstv (n := 1) (v := 1) (by decide +kernel) (by decide +kernel) ?_
  refine pz_add (by decide +kernel) rfl kz_1 (by omega) (by omega) (fun z8 hz8 => ?_)
  refine pz_ialdX (n := xs.length) (by decide +kernel) (show pg_X xs 0 = some (0, xs, 0) from rfl) rfl hz8 (by omega) (by omega) (fun v9 ev9 => ?_)
  clear hz8
  refine pe_aloadX_n (j := 0) (by decide +kernel) rfl ?_
  refine pe_iload_n (j := 3) (by decide +kernel) rfl ?_
  refine pe_iconstv (n := 2) (v := 2) (by decide +kernel) (by decide +kernel) ?_
  refine pz_add (by decide +kernel) rfl kz_2 (by omega) (by omega) (fun z10 hz10 => ?_)
  refine pz_ialdX (n := xs.length) (by decide +kernel) (show pg_X xs 0 = some (0, xs, 0) from rfl) rfl hz10 (by omega) (by omega) (fun v11 ev11 => ?_)
  clear hz10
  refine pe_aloadX_n (j := 0) (by decide +kernel) rfl ?_
  refine pe_iload_n (j := 3) (by decide +kernel) rfl ?_
  refine pe_iconstv (n := 3) (v := 3) (by decide +kernel) (by decide +kernel) ?_
  refine pz_add (by decide +kernel) rfl kz_3 (by omega) (by omega) (fun z12 hz12 => ?_)
  refine pz_ialdX (n := xs.length) (by decide +kernel) (show pg_X xs 0 = some (0, xs, 0) from rfl) rfl hz12 (by omega) (by omega) (fun v13 ev13 => ?_)
  clear hz12
  show pmE pg (pg_X xs) pg_tyl pg_cl 41 318 470 [.retAddr 0, .ref 0, .ref 147, .int x3] [.int v13, .int v11, .int v9, .ref 147] (md (cc f A R) g B) _
  refine pz_callV (j := 44) (mj := 222) (by decide +kernel) (cll_V (args := [.int v13, .int v11, .int v9]) (n := 3) (by decide +kernel) rfl rfl (md_o cc_len) (by decide +kernel) (Nat.le_of_ble_eq_true rfl) (Nat.le_of_ble_eq_true rfl)) (MM_222 cc_len hM) (fun q14a q14b q14c q14d hqq14 => ?_)
  obtain ⟨rq14, eq14, kq14⟩ := hqq14
  cases eq14
  refine ⟨rfl, rfl, ?_⟩
  show pmE pg (pg_X xs) pg_tyl pg_cl 41 318 473 [.retAddr 0, .ref 0, .ref 147, .int x3] [.int rq14] (cd f A R (em g B)) _
  refine pe_pop (by decide +kernel) rfl ?_
  refine pe_goto (off := 2003) (t := 2477) (by decide +kernel) (by decide) rfl ?_
  exact kk _ _ _ _ _ ⟨hC, hM, (RL5_t rfl rfl (RL4_fr hC hM (fun _ _ => rfl) (fun _ _ => rfl) rfl rfl hR.1) hR)⟩
set_option maxRecDepth 100000 in
set_option maxHeartbeats 8000000 in
theorem LC_7 {xs : List Int32} {Q : pm_R → Prop} {f : Nat → Int32} {A : Nat → List Int32} {R : Nat → Value} {g : Nat → Int32} {B : Nat → List Int32} {x3 : Int32} (h3 : 0 ≤ x3.toInt) (h4 : x3.toInt + 7 ≤ xs.length) (hl : xs.length ≤ 3584) (hS : ST f A R g B) (kk : ∀ (f' : Nat → Int32) (A' : Nat → List Int32) (R' : Nat → Value) (g' : Nat → Int32) (B' : Nat → List Int32), ST f' A' R' g' B' → pmE pg (pg_X xs) pg_tyl pg_cl 41 318 2477 [.retAddr 0, .ref 0, .ref 147, .int x3] [] (cd f' A' R' (em g' B')) Q) : pmE pg (pg_X xs) pg_tyl pg_cl 41 318 477 [.retAddr 0, .ref 0, .ref 147, .int x3] [] (cd f A R (em g B)) Q := by
  obtain ⟨hC, hM, hR⟩ := hS
  refine pe_aload_n (j := 1) (by decide +kernel) rfl ?_
  refine pe_aloadX_n (j := 0) (by decide +kernel) rfl ?_
  refine pe_iload_n (j := 3) (by decide +kernel) rfl ?_
  refine pe_iconstv (n := 1) (v := 1) (by decide +kernel) (by decide +kernel) ?_
  refine pz_add (by decide +kernel) rfl kz_1 (by omega) (by omega) (fun z1 hz1 => ?_)
  refine pz_ialdX (n := xs.length) (by decide +kernel) (show pg_X xs 0 = some (0, xs, 0) from rfl) rfl hz1 (by omega) (by omega) (fun v2 ev2 => ?_)
  clear hz1
  refine pe_aloadX_n (j := 0) (by decide +kernel) rfl ?_
  refine pe_iload_n (j := 3) (by decide +kernel) rfl ?_
  refine pe_iconstv (n := 2) (v := 2) (by decide +kernel) (by decide +kernel) ?_
  refine pz_add (by decide +kernel) rfl kz_2 (by omega) (by omega) (fun z3 hz3 => ?_)
  refine pz_ialdX (n := xs.length) (by decide +kernel) (show pg_X xs 0 = some (0, xs, 0) from rfl) rfl hz3 (by omega) (by omega) (fun v4 ev4 => ?_)
  clear hz3
  refine pe_aloadX_n (j := 0) (by decide +kernel) rfl ?_
  refine pe_iload_n (j := 3) (by decide +kernel) rfl ?_
  refine pe_iconstv (n := 3) (v := 3) (by decide +kernel) (by decide +kernel) ?_
  refine pz_add (by decide +kernel) rfl kz_3 (by omega) (by omega) (fun z5 hz5 => ?_)
  refine pz_ialdX (n := xs.length) (by decide +kernel) (show pg_X xs 0 = some (0, xs, 0) from rfl) rfl hz5 (by omega) (by omega) (fun v6 ev6 => ?_)
  clear hz5
  refine pz_callV (j := 45) (mj := 66) (by decide +kernel) (cll_V (args := [.int v6, .int v4, .int v2]) (n := 3) (by decide +kernel) rfl rfl cd_o0 (by decide +kernel) (Nat.le_of_ble_eq_true rfl) (Nat.le_of_ble_eq_true rfl)) (CM_66 st_XO hC) (fun q7a q7b q7c q7d hqq7 => ?_)
  obtain ⟨rq7, eq7, kq7⟩ := hqq7
  cases eq7
  refine ⟨rfl, rfl, ?_⟩
  show pmE pg (pg_X xs) pg_tyl pg_cl 41 318 496 [.retAddr 0, .ref 0, .ref 147, .int x3] [.int rq7] (cd f A R (em g B)) _
  refine pe_pop (by decide +kernel) rfl ?_
  refine pe_aload_n (j := 2) (by decide +kernel) rfl ?_
  refine pe_aloadX_n (j := 0) (by decide +kernel) rfl ?_
  refine pe_iload_n (j := 3) (by decide +kernel) rfl ?_
  refine pe_iconstv (n := 1) (v := 1) (by decide +kernel) (by decide +kernel) ?_
  refine pz_add (by decide +kernel) rfl kz_1 (by omega) (by omega) (fun z8 hz8 => ?_)
  refine pz_ialdX (n := xs.length) (by decide +kernel) (show pg_X xs 0 = some (0, xs, 0) from rfl) rfl hz8 (by omega) (by omega) (fun v9 ev9 => ?_)
  clear hz8
  refine pe_aloadX_n (j := 0) (by decide +kernel) rfl ?_
  refine pe_iload_n (j := 3) (by decide +kernel) rfl ?_
  refine pe_iconstv (n := 2) (v := 2) (by decide +kernel) (by decide +kernel) ?_
  refine pz_add (by decide +kernel) rfl kz_2 (by omega) (by omega) (fun z10 hz10 => ?_)
  refine pz_ialdX (n := xs.length) (by decide +kernel) (show pg_X xs 0 = some (0, xs, 0) from rfl) rfl hz10 (by omega) (by omega) (fun v11 ev11 => ?_)
  clear hz10
  refine pe_aloadX_n (j := 0) (by decide +kernel) rfl ?_
  refine pe_iload_n (j := 3) (by decide +kernel) rfl ?_
  refine pe_iconstv (n := 3) (v := 3) (by decide +kernel) (by decide +kernel) ?_
  refine pz_add (by decide +kernel) rfl kz_3 (by omega) (by omega) (fun z12 hz12 => ?_)
  refine pz_ialdX (n := xs.length) (by decide +kernel) (show pg_X xs 0 = some (0, xs, 0) from rfl) rfl hz12 (by omega) (by omega) (fun v13 ev13 => ?_)
  clear hz12
  show pmE pg (pg_X xs) pg_tyl pg_cl 41 318 513 [.retAddr 0, .ref 0, .ref 147, .int x3] [.int v13, .int v11, .int v9, .ref 147] (md (cc f A R) g B) _
  refine pz_callV (j := 48) (mj := 225) (by decide +kernel) (cll_V (args := [.int v13, .int v11, .int v9]) (n := 3) (by decide +kernel) rfl rfl (md_o cc_len) (by decide +kernel) (Nat.le_of_ble_eq_true rfl) (Nat.le_of_ble_eq_true rfl)) (MM_225 cc_len hM) (fun q14a q14b q14c q14d hqq14 => ?_)
  obtain ⟨rq14, eq14, kq14⟩ := hqq14
  cases eq14
  refine ⟨rfl, rfl, ?_⟩
  show pmE pg (pg_X xs) pg_tyl pg_cl 41 318 516 [.retAddr 0, .ref 0, .ref 147, .int x3] [.int rq14] (cd f A R (em g B)) _
  refine pe_pop (by decide +kernel) rfl ?_
  refine pe_goto (off := 1960) (t := 2477) (by decide +kernel) (by decide) rfl ?_
  exact kk _ _ _ _ _ ⟨hC, hM, (RL5_t rfl rfl (RL4_fr hC hM (fun _ _ => rfl) (fun _ _ => rfl) rfl rfl hR.1) hR)⟩
set_option maxRecDepth 100000 in
set_option maxHeartbeats 8000000 in
theorem LC_8 {xs : List Int32} {Q : pm_R → Prop} {f : Nat → Int32} {A : Nat → List Int32} {R : Nat → Value} {g : Nat → Int32} {B : Nat → List Int32} {x3 : Int32} (h3 : 0 ≤ x3.toInt) (h4 : x3.toInt + 7 ≤ xs.length) (hl : xs.length ≤ 3584) (hS : ST f A R g B) (kk : ∀ (f' : Nat → Int32) (A' : Nat → List Int32) (R' : Nat → Value) (g' : Nat → Int32) (B' : Nat → List Int32), ST f' A' R' g' B' → pmE pg (pg_X xs) pg_tyl pg_cl 41 318 2477 [.retAddr 0, .ref 0, .ref 147, .int x3] [] (cd f' A' R' (em g' B')) Q) : pmE pg (pg_X xs) pg_tyl pg_cl 41 318 520 [.retAddr 0, .ref 0, .ref 147, .int x3] [] (cd f A R (em g B)) Q := by
  obtain ⟨hC, hM, hR⟩ := hS
  refine pe_aload_n (j := 1) (by decide +kernel) rfl ?_
  refine pe_aloadX_n (j := 0) (by decide +kernel) rfl ?_
  refine pe_iload_n (j := 3) (by decide +kernel) rfl ?_
  refine pe_iconstv (n := 1) (v := 1) (by decide +kernel) (by decide +kernel) ?_
  refine pz_add (by decide +kernel) rfl kz_1 (by omega) (by omega) (fun z1 hz1 => ?_)
  refine pz_ialdX (n := xs.length) (by decide +kernel) (show pg_X xs 0 = some (0, xs, 0) from rfl) rfl hz1 (by omega) (by omega) (fun v2 ev2 => ?_)
  clear hz1
  refine pe_aloadX_n (j := 0) (by decide +kernel) rfl ?_
  refine pe_iload_n (j := 3) (by decide +kernel) rfl ?_
  refine pe_iconstv (n := 2) (v := 2) (by decide +kernel) (by decide +kernel) ?_
  refine pz_add (by decide +kernel) rfl kz_2 (by omega) (by omega) (fun z3 hz3 => ?_)
  refine pz_ialdX (n := xs.length) (by decide +kernel) (show pg_X xs 0 = some (0, xs, 0) from rfl) rfl hz3 (by omega) (by omega) (fun v4 ev4 => ?_)
  clear hz3
  refine pz_callV (j := 49) (mj := 73) (by decide +kernel) (cll_V (args := [.int v4, .int v2]) (n := 2) (by decide +kernel) rfl rfl cd_o0 (by decide +kernel) (Nat.le_of_ble_eq_true rfl) (Nat.le_of_ble_eq_true rfl)) (CM_73 st_XO hC) (fun q5a q5b q5c q5d hqq5 => ?_)
  obtain ⟨f6, A7, R8, rq5, eq5, hIq5, hGq5, hFq5, hHq5, kq5⟩ := hqq5
  cases eq5
  refine ⟨rfl, rfl, ?_⟩
  show pmE pg (pg_X xs) pg_tyl pg_cl 41 318 534 [.retAddr 0, .ref 0, .ref 147, .int x3] [.int rq5] (cd f6 A7 R8 (em g B)) _
  refine pe_pop (by decide +kernel) rfl ?_
  refine pe_aload_n (j := 2) (by decide +kernel) rfl ?_
  refine pe_aloadX_n (j := 0) (by decide +kernel) rfl ?_
  refine pe_iload_n (j := 3) (by decide +kernel) rfl ?_
  refine pe_iconstv (n := 1) (v := 1) (by decide +kernel) (by decide +kernel) ?_
  refine pz_add (by decide +kernel) rfl kz_1 (by omega) (by omega) (fun z9 hz9 => ?_)
  refine pz_ialdX (n := xs.length) (by decide +kernel) (show pg_X xs 0 = some (0, xs, 0) from rfl) rfl hz9 (by omega) (by omega) (fun v10 ev10 => ?_)
  clear hz9
  refine pe_aloadX_n (j := 0) (by decide +kernel) rfl ?_
  refine pe_iload_n (j := 3) (by decide +kernel) rfl ?_
  refine pe_iconstv (n := 2) (v := 2) (by decide +kernel) (by decide +kernel) ?_
  refine pz_add (by decide +kernel) rfl kz_2 (by omega) (by omega) (fun z11 hz11 => ?_)
  refine pz_ialdX (n := xs.length) (by decide +kernel) (show pg_X xs 0 = some (0, xs, 0) from rfl) rfl hz11 (by omega) (by omega) (fun v12 ev12 => ?_)
  clear hz11
  show pmE pg (pg_X xs) pg_tyl pg_cl 41 318 546 [.retAddr 0, .ref 0, .ref 147, .int x3] [.int v12, .int v10, .ref 147] (md (cc f6 A7 R8) g B) _
  refine pz_callV (j := 52) (mj := 226) (by decide +kernel) (cll_V (args := [.int v12, .int v10]) (n := 2) (by decide +kernel) rfl rfl (md_o cc_len) (by decide +kernel) (Nat.le_of_ble_eq_true rfl) (Nat.le_of_ble_eq_true rfl)) (MM_226 cc_len hM) (fun q13a q13b q13c q13d hqq13 => ?_)
  obtain ⟨g14, B15, rq13, eq13, hIq13, hGq13, hFq13, kq13⟩ := hqq13
  cases eq13
  refine ⟨rfl, rfl, ?_⟩
  show pmE pg (pg_X xs) pg_tyl pg_cl 41 318 549 [.retAddr 0, .ref 0, .ref 147, .int x3] [.int rq13] (cd f6 A7 R8 (em g14 B15)) _
  refine pe_pop (by decide +kernel) rfl ?_
  refine pe_goto (off := 1927) (t := 2477) (by decide +kernel) (by decide) rfl ?_
  exact kk _ _ _ _ _ ⟨hIq5, hIq13, (RL5_t (hGq13 31 (by decide) (by decide) (by decide)) (hGq13 32 (by decide) (by decide) (by decide)) (RL4_fr hIq5 hIq13 (fun n hn => hGq5 n (tn hn (by decide)) (tn hn (by decide))) (fun n hn => hFq5 n (tn hn (by decide)) (tn hn (by decide)) (tn hn (by decide))) (hFq13 148 (by decide) (by decide)) (hFq13 149 (by decide) (by decide)) hR.1) hR)⟩
set_option maxRecDepth 100000 in
set_option maxHeartbeats 8000000 in
theorem LC_9 {xs : List Int32} {Q : pm_R → Prop} {f : Nat → Int32} {A : Nat → List Int32} {R : Nat → Value} {g : Nat → Int32} {B : Nat → List Int32} {x3 : Int32} (h3 : 0 ≤ x3.toInt) (h4 : x3.toInt + 7 ≤ xs.length) (hl : xs.length ≤ 3584) (hS : ST f A R g B) (kk : ∀ (f' : Nat → Int32) (A' : Nat → List Int32) (R' : Nat → Value) (g' : Nat → Int32) (B' : Nat → List Int32), ST f' A' R' g' B' → pmE pg (pg_X xs) pg_tyl pg_cl 41 318 2477 [.retAddr 0, .ref 0, .ref 147, .int x3] [] (cd f' A' R' (em g' B')) Q) : pmE pg (pg_X xs) pg_tyl pg_cl 41 318 553 [.retAddr 0, .ref 0, .ref 147, .int x3] [] (cd f A R (em g B)) Q := by
  obtain ⟨hC, hM, hR⟩ := hS
  refine pe_aload_n (j := 1) (by decide +kernel) rfl ?_
  refine pe_aloadX_n (j := 0) (by decide +kernel) rfl ?_
  refine pe_iload_n (j := 3) (by decide +kernel) rfl ?_
  refine pe_iconstv (n := 1) (v := 1) (by decide +kernel) (by decide +kernel) ?_
  refine pz_add (by decide +kernel) rfl kz_1 (by omega) (by omega) (fun z1 hz1 => ?_)
  refine pz_ialdX (n := xs.length) (by decide +kernel) (show pg_X xs 0 = some (0, xs, 0) from rfl) rfl hz1 (by omega) (by omega) (fun v2 ev2 => ?_)
  clear hz1
  refine pe_aloadX_n (j := 0) (by decide +kernel) rfl ?_
  refine pe_iload_n (j := 3) (by decide +kernel) rfl ?_
  refine pe_iconstv (n := 2) (v := 2) (by decide +kernel) (by decide +kernel) ?_
  refine pz_add (by decide +kernel) rfl kz_2 (by omega) (by omega) (fun z3 hz3 => ?_)
  refine pz_ialdX (n := xs.length) (by decide +kernel) (show pg_X xs 0 = some (0, xs, 0) from rfl) rfl hz3 (by omega) (by omega) (fun v4 ev4 => ?_)
  clear hz3
  refine pz_callV (j := 53) (mj := 91) (by decide +kernel) (cll_V (args := [.int v4, .int v2]) (n := 2) (by decide +kernel) rfl rfl cd_o0 (by decide +kernel) (Nat.le_of_ble_eq_true rfl) (Nat.le_of_ble_eq_true rfl)) (CM_91 st_XO hC) (fun q5a q5b q5c q5d hqq5 => ?_)
  obtain ⟨f6, A7, R8, rq5, eq5, hIq5, hGq5, hFq5, hHq5, kq5⟩ := hqq5
  cases eq5
  refine ⟨rfl, rfl, ?_⟩
  show pmE pg (pg_X xs) pg_tyl pg_cl 41 318 567 [.retAddr 0, .ref 0, .ref 147, .int x3] [.int rq5] (cd f6 A7 R8 (em g B)) _
  refine pe_pop (by decide +kernel) rfl ?_
  refine pe_aload_n (j := 2) (by decide +kernel) rfl ?_
  refine pe_aloadX_n (j := 0) (by decide +kernel) rfl ?_
  refine pe_iload_n (j := 3) (by decide +kernel) rfl ?_
  refine pe_iconstv (n := 1) (v := 1) (by decide +kernel) (by decide +kernel) ?_
  refine pz_add (by decide +kernel) rfl kz_1 (by omega) (by omega) (fun z9 hz9 => ?_)
  refine pz_ialdX (n := xs.length) (by decide +kernel) (show pg_X xs 0 = some (0, xs, 0) from rfl) rfl hz9 (by omega) (by omega) (fun v10 ev10 => ?_)
  clear hz9
  refine pe_aloadX_n (j := 0) (by decide +kernel) rfl ?_
  refine pe_iload_n (j := 3) (by decide +kernel) rfl ?_
  refine pe_iconstv (n := 2) (v := 2) (by decide +kernel) (by decide +kernel) ?_
  refine pz_add (by decide +kernel) rfl kz_2 (by omega) (by omega) (fun z11 hz11 => ?_)
  refine pz_ialdX (n := xs.length) (by decide +kernel) (show pg_X xs 0 = some (0, xs, 0) from rfl) rfl hz11 (by omega) (by omega) (fun v12 ev12 => ?_)
  clear hz11
  show pmE pg (pg_X xs) pg_tyl pg_cl 41 318 579 [.retAddr 0, .ref 0, .ref 147, .int x3] [.int v12, .int v10, .ref 147] (md (cc f6 A7 R8) g B) _
  refine pz_callV (j := 56) (mj := 243) (by decide +kernel) (cll_V (args := [.int v12, .int v10]) (n := 2) (by decide +kernel) rfl rfl (md_o cc_len) (by decide +kernel) (Nat.le_of_ble_eq_true rfl) (Nat.le_of_ble_eq_true rfl)) (MM_243 cc_len hM) (fun q13a q13b q13c q13d hqq13 => ?_)
  obtain ⟨g14, B15, rq13, eq13, hIq13, hGq13, hFq13, kq13⟩ := hqq13
  cases eq13
  refine ⟨rfl, rfl, ?_⟩
  show pmE pg (pg_X xs) pg_tyl pg_cl 41 318 582 [.retAddr 0, .ref 0, .ref 147, .int x3] [.int rq13] (cd f6 A7 R8 (em g14 B15)) _
  refine pe_pop (by decide +kernel) rfl ?_
  refine pe_goto (off := 1894) (t := 2477) (by decide +kernel) (by decide) rfl ?_
  exact kk _ _ _ _ _ ⟨hIq5, hIq13, (RL5_t (hGq13 31 (by decide) (by decide) (by decide)) (hGq13 32 (by decide) (by decide) (by decide)) (RL4_fr hIq5 hIq13 (fun n hn => hGq5 n (tn hn (by decide)) (tn hn (by decide))) (fun n hn => hFq5 n (tn hn (by decide)) (tn hn (by decide)) (tn hn (by decide))) (hFq13 148 (by decide) (by decide)) (hFq13 149 (by decide) (by decide)) hR.1) hR)⟩
end
section
set_option maxRecDepth 100000 in
set_option maxHeartbeats 8000000 in
theorem LC_10 {xs : List Int32} {Q : pm_R → Prop} {f : Nat → Int32} {A : Nat → List Int32} {R : Nat → Value} {g : Nat → Int32} {B : Nat → List Int32} {x3 : Int32} (h3 : 0 ≤ x3.toInt) (h4 : x3.toInt + 7 ≤ xs.length) (hl : xs.length ≤ 3584) (hS : ST f A R g B) (kk : ∀ (f' : Nat → Int32) (A' : Nat → List Int32) (R' : Nat → Value) (g' : Nat → Int32) (B' : Nat → List Int32), ST f' A' R' g' B' → pmE pg (pg_X xs) pg_tyl pg_cl 41 318 2477 [.retAddr 0, .ref 0, .ref 147, .int x3] [] (cd f' A' R' (em g' B')) Q) : pmE pg (pg_X xs) pg_tyl pg_cl 41 318 586 [.retAddr 0, .ref 0, .ref 147, .int x3] [] (cd f A R (em g B)) Q := by
  obtain ⟨hC, hM, hR⟩ := hS
  refine pe_aload_n (j := 1) (by decide +kernel) rfl ?_
  refine pe_aloadX_n (j := 0) (by decide +kernel) rfl ?_
  refine pe_iload_n (j := 3) (by decide +kernel) rfl ?_
  refine pe_iconstv (n := 1) (v := 1) (by decide +kernel) (by decide +kernel) ?_
  refine pz_add (by decide +kernel) rfl kz_1 (by omega) (by omega) (fun z1 hz1 => ?_)
  refine pz_ialdX (n := xs.length) (by decide +kernel) (show pg_X xs 0 = some (0, xs, 0) from rfl) rfl hz1 (by omega) (by omega) (fun v2 ev2 => ?_)
  clear hz1
  refine pe_aloadX_n (j := 0) (by decide +kernel) rfl ?_
  refine pe_iload_n (j := 3) (by decide +kernel) rfl ?_
  refine pe_iconstv (n := 2) (v := 2) (by decide +kernel) (by decide +kernel) ?_
  refine pz_add (by decide +kernel) rfl kz_2 (by omega) (by omega) (fun z3 hz3 => ?_)
  refine pz_ialdX (n := xs.length) (by decide +kernel) (show pg_X xs 0 = some (0, xs, 0) from rfl) rfl hz3 (by omega) (by omega) (fun v4 ev4 => ?_)
  clear hz3
  refine pe_aloadX_n (j := 0) (by decide +kernel) rfl ?_
  refine pe_iload_n (j := 3) (by decide +kernel) rfl ?_
  refine pe_iconstv (n := 3) (v := 3) (by decide +kernel) (by decide +kernel) ?_
  refine pz_add (by decide +kernel) rfl kz_3 (by omega) (by omega) (fun z5 hz5 => ?_)
  refine pz_ialdX (n := xs.length) (by decide +kernel) (show pg_X xs 0 = some (0, xs, 0) from rfl) rfl hz5 (by omega) (by omega) (fun v6 ev6 => ?_)
  clear hz5
  refine pe_aloadX_n (j := 0) (by decide +kernel) rfl ?_
  refine pe_iload_n (j := 3) (by decide +kernel) rfl ?_
  refine pe_iconstv (n := 4) (v := 4) (by decide +kernel) (by decide +kernel) ?_
  refine pz_add (by decide +kernel) rfl kz_4 (by omega) (by omega) (fun z7 hz7 => ?_)
  refine pz_ialdX (n := xs.length) (by decide +kernel) (show pg_X xs 0 = some (0, xs, 0) from rfl) rfl hz7 (by omega) (by omega) (fun v8 ev8 => ?_)
  clear hz7
  refine pe_aloadX_n (j := 0) (by decide +kernel) rfl ?_
  refine pe_iload_n (j := 3) (by decide +kernel) rfl ?_
  refine pe_iconstv (n := 5) (v := 5) (by decide +kernel) (by decide +kernel) ?_
  refine pz_add (by decide +kernel) rfl kz_5 (by omega) (by omega) (fun z9 hz9 => ?_)
  refine pz_ialdX (n := xs.length) (by decide +kernel) (show pg_X xs 0 = some (0, xs, 0) from rfl) rfl hz9 (by omega) (by omega) (fun v10 ev10 => ?_)
  clear hz9
  refine pz_callV (j := 57) (mj := 96) (by decide +kernel) (cll_V (args := [.int v10, .int v8, .int v6, .int v4, .int v2]) (n := 5) (by decide +kernel) rfl rfl cd_o0 (by decide +kernel) (Nat.le_of_ble_eq_true rfl) (Nat.le_of_ble_eq_true rfl)) (CM_96 st_XO hC) (fun q11a q11b q11c q11d hqq11 => ?_)
  obtain ⟨f12, A13, R14, rq11, eq11, hIq11, hGq11, hFq11, hHq11, kq11⟩ := hqq11
  cases eq11
  refine ⟨rfl, rfl, ?_⟩
  show pmE pg (pg_X xs) pg_tyl pg_cl 41 318 615 [.retAddr 0, .ref 0, .ref 147, .int x3] [.int rq11] (cd f12 A13 R14 (em g B)) _
  refine pe_pop (by decide +kernel) rfl ?_
  refine pe_aload_n (j := 2) (by decide +kernel) rfl ?_
  refine pe_aloadX_n (j := 0) (by decide +kernel) rfl ?_
  refine pe_iload_n (j := 3) (by decide +kernel) rfl ?_
  refine pe_iconstv (n := 1) (v := 1) (by decide +kernel) (by decide +kernel) ?_
  refine pz_add (by decide +kernel) rfl kz_1 (by omega) (by omega) (fun z15 hz15 => ?_)
  refine pz_ialdX (n := xs.length) (by decide +kernel) (show pg_X xs 0 = some (0, xs, 0) from rfl) rfl hz15 (by omega) (by omega) (fun v16 ev16 => ?_)
  clear hz15
  refine pe_aloadX_n (j := 0) (by decide +kernel) rfl ?_
  refine pe_iload_n (j := 3) (by decide +kernel) rfl ?_
  refine pe_iconstv (n := 2) (v := 2) (by decide +kernel) (by decide +kernel) ?_
  refine pz_add (by decide +kernel) rfl kz_2 (by omega) (by omega) (fun z17 hz17 => ?_)
  refine pz_ialdX (n := xs.length) (by decide +kernel) (show pg_X xs 0 = some (0, xs, 0) from rfl) rfl hz17 (by omega) (by omega) (fun v18 ev18 => ?_)
  clear hz17
  refine pe_aloadX_n (j := 0) (by decide +kernel) rfl ?_
  refine pe_iload_n (j := 3) (by decide +kernel) rfl ?_
  refine pe_iconstv (n := 3) (v := 3) (by decide +kernel) (by decide +kernel) ?_
  refine pz_add (by decide +kernel) rfl kz_3 (by omega) (by omega) (fun z19 hz19 => ?_)
  refine pz_ialdX (n := xs.length) (by decide +kernel) (show pg_X xs 0 = some (0, xs, 0) from rfl) rfl hz19 (by omega) (by omega) (fun v20 ev20 => ?_)
  clear hz19
  refine pe_aloadX_n (j := 0) (by decide +kernel) rfl ?_
  refine pe_iload_n (j := 3) (by decide +kernel) rfl ?_
  refine pe_iconstv (n := 4) (v := 4) (by decide +kernel) (by decide +kernel) ?_
  refine pz_add (by decide +kernel) rfl kz_4 (by omega) (by omega) (fun z21 hz21 => ?_)
  refine pz_ialdX (n := xs.length) (by decide +kernel) (show pg_X xs 0 = some (0, xs, 0) from rfl) rfl hz21 (by omega) (by omega) (fun v22 ev22 => ?_)
  clear hz21
  refine pe_aloadX_n (j := 0) (by decide +kernel) rfl ?_
  refine pe_iload_n (j := 3) (by decide +kernel) rfl ?_
  refine pe_iconstv (n := 5) (v := 5) (by decide +kernel) (by decide +kernel) ?_
  refine pz_add (by decide +kernel) rfl kz_5 (by omega) (by omega) (fun z23 hz23 => ?_)
  refine pz_ialdX (n := xs.length) (by decide +kernel) (show pg_X xs 0 = some (0, xs, 0) from rfl) rfl hz23 (by omega) (by omega) (fun v24 ev24 => ?_)
  clear hz23
  show pmE pg (pg_X xs) pg_tyl pg_cl 41 318 642 [.retAddr 0, .ref 0, .ref 147, .int x3] [.int v24, .int v22, .int v20, .int v18, .int v16, .ref 147] (md (cc f12 A13 R14) g B) _
  refine pz_callV (j := 60) (mj := 244) (by decide +kernel) (cll_V (args := [.int v24, .int v22, .int v20, .int v18, .int v16]) (n := 5) (by decide +kernel) rfl rfl (md_o cc_len) (by decide +kernel) (Nat.le_of_ble_eq_true rfl) (Nat.le_of_ble_eq_true rfl)) (MM_244 cc_len hM) (fun q25a q25b q25c q25d hqq25 => ?_)
  obtain ⟨g26, B27, rq25, eq25, hIq25, hGq25, hFq25, kq25⟩ := hqq25
  cases eq25
  refine ⟨rfl, rfl, ?_⟩
  show pmE pg (pg_X xs) pg_tyl pg_cl 41 318 645 [.retAddr 0, .ref 0, .ref 147, .int x3] [.int rq25] (cd f12 A13 R14 (em g26 B27)) _
  refine pe_pop (by decide +kernel) rfl ?_
  refine pe_goto (off := 1831) (t := 2477) (by decide +kernel) (by decide) rfl ?_
  exact kk _ _ _ _ _ ⟨hIq11, hIq25, (RL5_t (hGq25 31 (by decide) (by decide) (by decide)) (hGq25 32 (by decide) (by decide) (by decide)) (RL4_fr hIq11 hIq25 (fun n hn => hGq11 n (tn hn (by decide)) (tn hn (by decide))) (fun n hn => hFq11 n (tn hn (by decide)) (tn hn (by decide)) (tn hn (by decide))) (hFq25 148 (by decide) (by decide)) (hFq25 149 (by decide) (by decide)) hR.1) hR)⟩
set_option maxRecDepth 100000 in
set_option maxHeartbeats 8000000 in
theorem LC_11 {xs : List Int32} {Q : pm_R → Prop} {f : Nat → Int32} {A : Nat → List Int32} {R : Nat → Value} {g : Nat → Int32} {B : Nat → List Int32} {x3 : Int32} (h3 : 0 ≤ x3.toInt) (h4 : x3.toInt + 7 ≤ xs.length) (hl : xs.length ≤ 3584) (hS : ST f A R g B) (kk : ∀ (f' : Nat → Int32) (A' : Nat → List Int32) (R' : Nat → Value) (g' : Nat → Int32) (B' : Nat → List Int32), ST f' A' R' g' B' → pmE pg (pg_X xs) pg_tyl pg_cl 41 318 2477 [.retAddr 0, .ref 0, .ref 147, .int x3] [] (cd f' A' R' (em g' B')) Q) : pmE pg (pg_X xs) pg_tyl pg_cl 41 318 649 [.retAddr 0, .ref 0, .ref 147, .int x3] [] (cd f A R (em g B)) Q := by
  obtain ⟨hC, hM, hR⟩ := hS
  refine pe_aload_n (j := 1) (by decide +kernel) rfl ?_
  refine pe_aloadX_n (j := 0) (by decide +kernel) rfl ?_
  refine pe_iload_n (j := 3) (by decide +kernel) rfl ?_
  refine pe_iconstv (n := 1) (v := 1) (by decide +kernel) (by decide +kernel) ?_
  refine pz_add (by decide +kernel) rfl kz_1 (by omega) (by omega) (fun z1 hz1 => ?_)
  refine pz_ialdX (n := xs.length) (by decide +kernel) (show pg_X xs 0 = some (0, xs, 0) from rfl) rfl hz1 (by omega) (by omega) (fun v2 ev2 => ?_)
  clear hz1
  refine pe_aloadX_n (j := 0) (by decide +kernel) rfl ?_
  refine pe_iload_n (j := 3) (by decide +kernel) rfl ?_
  refine pe_iconstv (n := 2) (v := 2) (by decide +kernel) (by decide +kernel) ?_
  refine pz_add (by decide +kernel) rfl kz_2 (by omega) (by omega) (fun z3 hz3 => ?_)
  refine pz_ialdX (n := xs.length) (by decide +kernel) (show pg_X xs 0 = some (0, xs, 0) from rfl) rfl hz3 (by omega) (by omega) (fun v4 ev4 => ?_)
  clear hz3
  refine pe_aloadX_n (j := 0) (by decide +kernel) rfl ?_
  refine pe_iload_n (j := 3) (by decide +kernel) rfl ?_
  refine pe_iconstv (n := 3) (v := 3) (by decide +kernel) (by decide +kernel) ?_
  refine pz_add (by decide +kernel) rfl kz_3 (by omega) (by omega) (fun z5 hz5 => ?_)
  refine pz_ialdX (n := xs.length) (by decide +kernel) (show pg_X xs 0 = some (0, xs, 0) from rfl) rfl hz5 (by omega) (by omega) (fun v6 ev6 => ?_)
  clear hz5
  refine pe_aloadX_n (j := 0) (by decide +kernel) rfl ?_
  refine pe_iload_n (j := 3) (by decide +kernel) rfl ?_
  refine pe_iconstv (n := 4) (v := 4) (by decide +kernel) (by decide +kernel) ?_
  refine pz_add (by decide +kernel) rfl kz_4 (by omega) (by omega) (fun z7 hz7 => ?_)
  refine pz_ialdX (n := xs.length) (by decide +kernel) (show pg_X xs 0 = some (0, xs, 0) from rfl) rfl hz7 (by omega) (by omega) (fun v8 ev8 => ?_)
  clear hz7
  refine pe_aloadX_n (j := 0) (by decide +kernel) rfl ?_
  refine pe_iload_n (j := 3) (by decide +kernel) rfl ?_
  refine pe_iconstv (n := 5) (v := 5) (by decide +kernel) (by decide +kernel) ?_
  refine pz_add (by decide +kernel) rfl kz_5 (by omega) (by omega) (fun z9 hz9 => ?_)
  refine pz_ialdX (n := xs.length) (by decide +kernel) (show pg_X xs 0 = some (0, xs, 0) from rfl) rfl hz9 (by omega) (by omega) (fun v10 ev10 => ?_)
  clear hz9
  refine pz_callV (j := 61) (mj := 99) (by decide +kernel) (cll_V (args := [.int v10, .int v8, .int v6, .int v4, .int v2]) (n := 5) (by decide +kernel) rfl rfl cd_o0 (by decide +kernel) (Nat.le_of_ble_eq_true rfl) (Nat.le_of_ble_eq_true rfl)) (CM_99 st_XO hC) (fun q11a q11b q11c q11d hqq11 => ?_)
  obtain ⟨f12, A13, R14, rq11, eq11, hIq11, hGq11, hFq11, hHq11, kq11⟩ := hqq11
  cases eq11
  refine ⟨rfl, rfl, ?_⟩
  show pmE pg (pg_X xs) pg_tyl pg_cl 41 318 678 [.retAddr 0, .ref 0, .ref 147, .int x3] [.int rq11] (cd f12 A13 R14 (em g B)) _
  refine pe_pop (by decide +kernel) rfl ?_
  refine pe_aload_n (j := 2) (by decide +kernel) rfl ?_
  refine pe_aloadX_n (j := 0) (by decide +kernel) rfl ?_
  refine pe_iload_n (j := 3) (by decide +kernel) rfl ?_
  refine pe_iconstv (n := 1) (v := 1) (by decide +kernel) (by decide +kernel) ?_
  refine pz_add (by decide +kernel) rfl kz_1 (by omega) (by omega) (fun z15 hz15 => ?_)
  refine pz_ialdX (n := xs.length) (by decide +kernel) (show pg_X xs 0 = some (0, xs, 0) from rfl) rfl hz15 (by omega) (by omega) (fun v16 ev16 => ?_)
  clear hz15
  refine pe_aloadX_n (j := 0) (by decide +kernel) rfl ?_
  refine pe_iload_n (j := 3) (by decide +kernel) rfl ?_
  refine pe_iconstv (n := 2) (v := 2) (by decide +kernel) (by decide +kernel) ?_
  refine pz_add (by decide +kernel) rfl kz_2 (by omega) (by omega) (fun z17 hz17 => ?_)
  refine pz_ialdX (n := xs.length) (by decide +kernel) (show pg_X xs 0 = some (0, xs, 0) from rfl) rfl hz17 (by omega) (by omega) (fun v18 ev18 => ?_)
  clear hz17
  refine pe_aloadX_n (j := 0) (by decide +kernel) rfl ?_
  refine pe_iload_n (j := 3) (by decide +kernel) rfl ?_
  refine pe_iconstv (n := 3) (v := 3) (by decide +kernel) (by decide +kernel) ?_
  refine pz_add (by decide +kernel) rfl kz_3 (by omega) (by omega) (fun z19 hz19 => ?_)
  refine pz_ialdX (n := xs.length) (by decide +kernel) (show pg_X xs 0 = some (0, xs, 0) from rfl) rfl hz19 (by omega) (by omega) (fun v20 ev20 => ?_)
  clear hz19
  refine pe_aloadX_n (j := 0) (by decide +kernel) rfl ?_
  refine pe_iload_n (j := 3) (by decide +kernel) rfl ?_
  refine pe_iconstv (n := 4) (v := 4) (by decide +kernel) (by decide +kernel) ?_
  refine pz_add (by decide +kernel) rfl kz_4 (by omega) (by omega) (fun z21 hz21 => ?_)
  refine pz_ialdX (n := xs.length) (by decide +kernel) (show pg_X xs 0 = some (0, xs, 0) from rfl) rfl hz21 (by omega) (by omega) (fun v22 ev22 => ?_)
  clear hz21
  refine pe_aloadX_n (j := 0) (by decide +kernel) rfl ?_
  refine pe_iload_n (j := 3) (by decide +kernel) rfl ?_
  refine pe_iconstv (n := 5) (v := 5) (by decide +kernel) (by decide +kernel) ?_
  refine pz_add (by decide +kernel) rfl kz_5 (by omega) (by omega) (fun z23 hz23 => ?_)
  refine pz_ialdX (n := xs.length) (by decide +kernel) (show pg_X xs 0 = some (0, xs, 0) from rfl) rfl hz23 (by omega) (by omega) (fun v24 ev24 => ?_)
  clear hz23
  show pmE pg (pg_X xs) pg_tyl pg_cl 41 318 705 [.retAddr 0, .ref 0, .ref 147, .int x3] [.int v24, .int v22, .int v20, .int v18, .int v16, .ref 147] (md (cc f12 A13 R14) g B) _
  refine pz_callV (j := 64) (mj := 247) (by decide +kernel) (cll_V (args := [.int v24, .int v22, .int v20, .int v18, .int v16]) (n := 5) (by decide +kernel) rfl rfl (md_o cc_len) (by decide +kernel) (Nat.le_of_ble_eq_true rfl) (Nat.le_of_ble_eq_true rfl)) (MM_247 cc_len hM) (fun q25a q25b q25c q25d hqq25 => ?_)
  obtain ⟨g26, B27, rq25, eq25, hIq25, hGq25, hFq25, kq25⟩ := hqq25
  cases eq25
  refine ⟨rfl, rfl, ?_⟩
  show pmE pg (pg_X xs) pg_tyl pg_cl 41 318 708 [.retAddr 0, .ref 0, .ref 147, .int x3] [.int rq25] (cd f12 A13 R14 (em g26 B27)) _
  refine pe_pop (by decide +kernel) rfl ?_
  refine pe_goto (off := 1768) (t := 2477) (by decide +kernel) (by decide) rfl ?_
  exact kk _ _ _ _ _ ⟨hIq11, hIq25, (RL5_t (hGq25 31 (by decide) (by decide) (by decide)) (hGq25 32 (by decide) (by decide) (by decide)) (RL4_fr hIq11 hIq25 (fun n hn => hGq11 n (tn hn (by decide)) (tn hn (by decide))) (fun n hn => hFq11 n (tn hn (by decide)) (tn hn (by decide)) (tn hn (by decide))) (hFq25 148 (by decide) (by decide)) (hFq25 149 (by decide) (by decide)) hR.1) hR)⟩
set_option maxRecDepth 100000 in
set_option maxHeartbeats 8000000 in
theorem LC_12 {xs : List Int32} {Q : pm_R → Prop} {f : Nat → Int32} {A : Nat → List Int32} {R : Nat → Value} {g : Nat → Int32} {B : Nat → List Int32} {x3 : Int32} (h3 : 0 ≤ x3.toInt) (h4 : x3.toInt + 7 ≤ xs.length) (hl : xs.length ≤ 3584) (hS : ST f A R g B) (kk : ∀ (f' : Nat → Int32) (A' : Nat → List Int32) (R' : Nat → Value) (g' : Nat → Int32) (B' : Nat → List Int32), ST f' A' R' g' B' → pmE pg (pg_X xs) pg_tyl pg_cl 41 318 2477 [.retAddr 0, .ref 0, .ref 147, .int x3] [] (cd f' A' R' (em g' B')) Q) : pmE pg (pg_X xs) pg_tyl pg_cl 41 318 712 [.retAddr 0, .ref 0, .ref 147, .int x3] [] (cd f A R (em g B)) Q := by
  obtain ⟨hC, hM, hR⟩ := hS
  refine pe_aload_n (j := 1) (by decide +kernel) rfl ?_
  refine pe_aloadX_n (j := 0) (by decide +kernel) rfl ?_
  refine pe_iload_n (j := 3) (by decide +kernel) rfl ?_
  refine pe_iconstv (n := 1) (v := 1) (by decide +kernel) (by decide +kernel) ?_
  refine pz_add (by decide +kernel) rfl kz_1 (by omega) (by omega) (fun z1 hz1 => ?_)
  refine pz_ialdX (n := xs.length) (by decide +kernel) (show pg_X xs 0 = some (0, xs, 0) from rfl) rfl hz1 (by omega) (by omega) (fun v2 ev2 => ?_)
  clear hz1
  refine pe_aloadX_n (j := 0) (by decide +kernel) rfl ?_
  refine pe_iload_n (j := 3) (by decide +kernel) rfl ?_
  refine pe_iconstv (n := 2) (v := 2) (by decide +kernel) (by decide +kernel) ?_
  refine pz_add (by decide +kernel) rfl kz_2 (by omega) (by omega) (fun z3 hz3 => ?_)
  refine pz_ialdX (n := xs.length) (by decide +kernel) (show pg_X xs 0 = some (0, xs, 0) from rfl) rfl hz3 (by omega) (by omega) (fun v4 ev4 => ?_)
  clear hz3
  refine pe_aloadX_n (j := 0) (by decide +kernel) rfl ?_
  refine pe_iload_n (j := 3) (by decide +kernel) rfl ?_
  refine pe_iconstv (n := 3) (v := 3) (by decide +kernel) (by decide +kernel) ?_
  refine pz_add (by decide +kernel) rfl kz_3 (by omega) (by omega) (fun z5 hz5 => ?_)
  refine pz_ialdX (n := xs.length) (by decide +kernel) (show pg_X xs 0 = some (0, xs, 0) from rfl) rfl hz5 (by omega) (by omega) (fun v6 ev6 => ?_)
  clear hz5
  refine pe_aloadX_n (j := 0) (by decide +kernel) rfl ?_
  refine pe_iload_n (j := 3) (by decide +kernel) rfl ?_
  refine pe_iconstv (n := 4) (v := 4) (by decide +kernel) (by decide +kernel) ?_
  refine pz_add (by decide +kernel) rfl kz_4 (by omega) (by omega) (fun z7 hz7 => ?_)
  refine pz_ialdX (n := xs.length) (by decide +kernel) (show pg_X xs 0 = some (0, xs, 0) from rfl) rfl hz7 (by omega) (by omega) (fun v8 ev8 => ?_)
  clear hz7
  refine pz_callV (j := 65) (mj := 100) (by decide +kernel) (cll_V (args := [.int v8, .int v6, .int v4, .int v2]) (n := 4) (by decide +kernel) rfl rfl cd_o0 (by decide +kernel) (Nat.le_of_ble_eq_true rfl) (Nat.le_of_ble_eq_true rfl)) (CM_100 st_XO hC) (fun q9a q9b q9c q9d hqq9 => ?_)
  obtain ⟨f10, A11, R12, rq9, eq9, hIq9, hGq9, hFq9, hHq9, kq9⟩ := hqq9
  cases eq9
  refine ⟨rfl, rfl, ?_⟩
  show pmE pg (pg_X xs) pg_tyl pg_cl 41 318 736 [.retAddr 0, .ref 0, .ref 147, .int x3] [.int rq9] (cd f10 A11 R12 (em g B)) _
  refine pe_pop (by decide +kernel) rfl ?_
  refine pe_aload_n (j := 2) (by decide +kernel) rfl ?_
  refine pe_aloadX_n (j := 0) (by decide +kernel) rfl ?_
  refine pe_iload_n (j := 3) (by decide +kernel) rfl ?_
  refine pe_iconstv (n := 1) (v := 1) (by decide +kernel) (by decide +kernel) ?_
  refine pz_add (by decide +kernel) rfl kz_1 (by omega) (by omega) (fun z13 hz13 => ?_)
  refine pz_ialdX (n := xs.length) (by decide +kernel) (show pg_X xs 0 = some (0, xs, 0) from rfl) rfl hz13 (by omega) (by omega) (fun v14 ev14 => ?_)
  clear hz13
  refine pe_aloadX_n (j := 0) (by decide +kernel) rfl ?_
  refine pe_iload_n (j := 3) (by decide +kernel) rfl ?_
  refine pe_iconstv (n := 2) (v := 2) (by decide +kernel) (by decide +kernel) ?_
  refine pz_add (by decide +kernel) rfl kz_2 (by omega) (by omega) (fun z15 hz15 => ?_)
  refine pz_ialdX (n := xs.length) (by decide +kernel) (show pg_X xs 0 = some (0, xs, 0) from rfl) rfl hz15 (by omega) (by omega) (fun v16 ev16 => ?_)
  clear hz15
  refine pe_aloadX_n (j := 0) (by decide +kernel) rfl ?_
  refine pe_iload_n (j := 3) (by decide +kernel) rfl ?_
  refine pe_iconstv (n := 3) (v := 3) (by decide +kernel) (by decide +kernel) ?_
  refine pz_add (by decide +kernel) rfl kz_3 (by omega) (by omega) (fun z17 hz17 => ?_)
  refine pz_ialdX (n := xs.length) (by decide +kernel) (show pg_X xs 0 = some (0, xs, 0) from rfl) rfl hz17 (by omega) (by omega) (fun v18 ev18 => ?_)
  clear hz17
  refine pe_aloadX_n (j := 0) (by decide +kernel) rfl ?_
  refine pe_iload_n (j := 3) (by decide +kernel) rfl ?_
  refine pe_iconstv (n := 4) (v := 4) (by decide +kernel) (by decide +kernel) ?_
  refine pz_add (by decide +kernel) rfl kz_4 (by omega) (by omega) (fun z19 hz19 => ?_)
  refine pz_ialdX (n := xs.length) (by decide +kernel) (show pg_X xs 0 = some (0, xs, 0) from rfl) rfl hz19 (by omega) (by omega) (fun v20 ev20 => ?_)
  clear hz19
  show pmE pg (pg_X xs) pg_tyl pg_cl 41 318 758 [.retAddr 0, .ref 0, .ref 147, .int x3] [.int v20, .int v18, .int v16, .int v14, .ref 147] (md (cc f10 A11 R12) g B) _
  refine pz_callV (j := 69) (mj := 248) (by decide +kernel) (cll_V (args := [.int v20, .int v18, .int v16, .int v14]) (n := 4) (by decide +kernel) rfl rfl (md_o cc_len) (by decide +kernel) (Nat.le_of_ble_eq_true rfl) (Nat.le_of_ble_eq_true rfl)) (MM_248 cc_len hM) (fun q21a q21b q21c q21d hqq21 => ?_)
  obtain ⟨g22, B23, rq21, eq21, hIq21, hGq21, hFq21, kq21⟩ := hqq21
  cases eq21
  refine ⟨rfl, rfl, ?_⟩
  show pmE pg (pg_X xs) pg_tyl pg_cl 41 318 761 [.retAddr 0, .ref 0, .ref 147, .int x3] [.int rq21] (cd f10 A11 R12 (em g22 B23)) _
  refine pe_pop (by decide +kernel) rfl ?_
  refine pe_goto (off := 1715) (t := 2477) (by decide +kernel) (by decide) rfl ?_
  exact kk _ _ _ _ _ ⟨hIq9, hIq21, (RL5_t (hGq21 31 (by decide) (by decide) (by decide)) (hGq21 32 (by decide) (by decide) (by decide)) (RL4_fr hIq9 hIq21 (fun n hn => hGq9 n (tn hn (by decide)) (tn hn (by decide))) (fun n hn => hFq9 n (tn hn (by decide)) (tn hn (by decide)) (tn hn (by decide))) (hFq21 148 (by decide) (by decide)) (hFq21 149 (by decide) (by decide)) hR.1) hR)⟩
set_option maxRecDepth 100000 in
set_option maxHeartbeats 8000000 in
theorem LC_13 {xs : List Int32} {Q : pm_R → Prop} {f : Nat → Int32} {A : Nat → List Int32} {R : Nat → Value} {g : Nat → Int32} {B : Nat → List Int32} {x3 : Int32} (h3 : 0 ≤ x3.toInt) (h4 : x3.toInt + 7 ≤ xs.length) (hl : xs.length ≤ 3584) (hS : ST f A R g B) (kk : ∀ (f' : Nat → Int32) (A' : Nat → List Int32) (R' : Nat → Value) (g' : Nat → Int32) (B' : Nat → List Int32), ST f' A' R' g' B' → pmE pg (pg_X xs) pg_tyl pg_cl 41 318 2477 [.retAddr 0, .ref 0, .ref 147, .int x3] [] (cd f' A' R' (em g' B')) Q) : pmE pg (pg_X xs) pg_tyl pg_cl 41 318 765 [.retAddr 0, .ref 0, .ref 147, .int x3] [] (cd f A R (em g B)) Q := by
  obtain ⟨hC, hM, hR⟩ := hS
  refine pe_aload_n (j := 1) (by decide +kernel) rfl ?_
  refine pe_aloadX_n (j := 0) (by decide +kernel) rfl ?_
  refine pe_iload_n (j := 3) (by decide +kernel) rfl ?_
  refine pe_iconstv (n := 1) (v := 1) (by decide +kernel) (by decide +kernel) ?_
  refine pz_add (by decide +kernel) rfl kz_1 (by omega) (by omega) (fun z1 hz1 => ?_)
  refine pz_ialdX (n := xs.length) (by decide +kernel) (show pg_X xs 0 = some (0, xs, 0) from rfl) rfl hz1 (by omega) (by omega) (fun v2 ev2 => ?_)
  clear hz1
  refine pe_aloadX_n (j := 0) (by decide +kernel) rfl ?_
  refine pe_iload_n (j := 3) (by decide +kernel) rfl ?_
  refine pe_iconstv (n := 2) (v := 2) (by decide +kernel) (by decide +kernel) ?_
  refine pz_add (by decide +kernel) rfl kz_2 (by omega) (by omega) (fun z3 hz3 => ?_)
  refine pz_ialdX (n := xs.length) (by decide +kernel) (show pg_X xs 0 = some (0, xs, 0) from rfl) rfl hz3 (by omega) (by omega) (fun v4 ev4 => ?_)
  clear hz3
  refine pe_aloadX_n (j := 0) (by decide +kernel) rfl ?_
  refine pe_iload_n (j := 3) (by decide +kernel) rfl ?_
  refine pe_iconstv (n := 3) (v := 3) (by decide +kernel) (by decide +kernel) ?_
  refine pz_add (by decide +kernel) rfl kz_3 (by omega) (by omega) (fun z5 hz5 => ?_)
  refine pz_ialdX (n := xs.length) (by decide +kernel) (show pg_X xs 0 = some (0, xs, 0) from rfl) rfl hz5 (by omega) (by omega) (fun v6 ev6 => ?_)
  clear hz5
  refine pz_callV (j := 70) (mj := 102) (by decide +kernel) (cll_V (args := [.int v6, .int v4, .int v2]) (n := 3) (by decide +kernel) rfl rfl cd_o0 (by decide +kernel) (Nat.le_of_ble_eq_true rfl) (Nat.le_of_ble_eq_true rfl)) (CM_102 st_XO hC) (fun q7a q7b q7c q7d hqq7 => ?_)
  obtain ⟨f8, A9, R10, rq7, eq7, hIq7, hGq7, hFq7, hHq7, kq7⟩ := hqq7
  cases eq7
  refine ⟨rfl, rfl, ?_⟩
  show pmE pg (pg_X xs) pg_tyl pg_cl 41 318 784 [.retAddr 0, .ref 0, .ref 147, .int x3] [.int rq7] (cd f8 A9 R10 (em g B)) _
  refine pe_pop (by decide +kernel) rfl ?_
  refine pe_aload_n (j := 2) (by decide +kernel) rfl ?_
  refine pe_aloadX_n (j := 0) (by decide +kernel) rfl ?_
  refine pe_iload_n (j := 3) (by decide +kernel) rfl ?_
  refine pe_iconstv (n := 1) (v := 1) (by decide +kernel) (by decide +kernel) ?_
  refine pz_add (by decide +kernel) rfl kz_1 (by omega) (by omega) (fun z11 hz11 => ?_)
  refine pz_ialdX (n := xs.length) (by decide +kernel) (show pg_X xs 0 = some (0, xs, 0) from rfl) rfl hz11 (by omega) (by omega) (fun v12 ev12 => ?_)
  clear hz11
  refine pe_aloadX_n (j := 0) (by decide +kernel) rfl ?_
  refine pe_iload_n (j := 3) (by decide +kernel) rfl ?_
  refine pe_iconstv (n := 2) (v := 2) (by decide +kernel) (by decide +kernel) ?_
  refine pz_add (by decide +kernel) rfl kz_2 (by omega) (by omega) (fun z13 hz13 => ?_)
  refine pz_ialdX (n := xs.length) (by decide +kernel) (show pg_X xs 0 = some (0, xs, 0) from rfl) rfl hz13 (by omega) (by omega) (fun v14 ev14 => ?_)
  clear hz13
  refine pe_aloadX_n (j := 0) (by decide +kernel) rfl ?_
  refine pe_iload_n (j := 3) (by decide +kernel) rfl ?_
  refine pe_iconstv (n := 3) (v := 3) (by decide +kernel) (by decide +kernel) ?_
  refine pz_add (by decide +kernel) rfl kz_3 (by omega) (by omega) (fun z15 hz15 => ?_)
  refine pz_ialdX (n := xs.length) (by decide +kernel) (show pg_X xs 0 = some (0, xs, 0) from rfl) rfl hz15 (by omega) (by omega) (fun v16 ev16 => ?_)
  clear hz15
  show pmE pg (pg_X xs) pg_tyl pg_cl 41 318 801 [.retAddr 0, .ref 0, .ref 147, .int x3] [.int v16, .int v14, .int v12, .ref 147] (md (cc f8 A9 R10) g B) _
  refine pz_callV (j := 74) (mj := 249) (by decide +kernel) (cll_V (args := [.int v16, .int v14, .int v12]) (n := 3) (by decide +kernel) rfl rfl (md_o cc_len) (by decide +kernel) (Nat.le_of_ble_eq_true rfl) (Nat.le_of_ble_eq_true rfl)) (MM_249 cc_len hM) (fun q17a q17b q17c q17d hqq17 => ?_)
  obtain ⟨g18, B19, rq17, eq17, hIq17, hGq17, hFq17, kq17⟩ := hqq17
  cases eq17
  refine ⟨rfl, rfl, ?_⟩
  show pmE pg (pg_X xs) pg_tyl pg_cl 41 318 804 [.retAddr 0, .ref 0, .ref 147, .int x3] [.int rq17] (cd f8 A9 R10 (em g18 B19)) _
  refine pe_pop (by decide +kernel) rfl ?_
  refine pe_goto (off := 1672) (t := 2477) (by decide +kernel) (by decide) rfl ?_
  exact kk _ _ _ _ _ ⟨hIq7, hIq17, (RL5_t (hGq17 31 (by decide) (by decide) (by decide)) (hGq17 32 (by decide) (by decide) (by decide)) (RL4_fr hIq7 hIq17 (fun n hn => hGq7 n (tn hn (by decide)) (tn hn (by decide))) (fun n hn => hFq7 n (tn hn (by decide)) (tn hn (by decide)) (tn hn (by decide))) (hFq17 148 (by decide) (by decide)) (hFq17 149 (by decide) (by decide)) hR.1) hR)⟩
set_option maxRecDepth 100000 in
set_option maxHeartbeats 8000000 in
theorem LC_14 {xs : List Int32} {Q : pm_R → Prop} {f : Nat → Int32} {A : Nat → List Int32} {R : Nat → Value} {g : Nat → Int32} {B : Nat → List Int32} {x3 : Int32} (h3 : 0 ≤ x3.toInt) (h4 : x3.toInt + 7 ≤ xs.length) (hl : xs.length ≤ 3584) (hS : ST f A R g B) (kk : ∀ (f' : Nat → Int32) (A' : Nat → List Int32) (R' : Nat → Value) (g' : Nat → Int32) (B' : Nat → List Int32), ST f' A' R' g' B' → pmE pg (pg_X xs) pg_tyl pg_cl 41 318 2477 [.retAddr 0, .ref 0, .ref 147, .int x3] [] (cd f' A' R' (em g' B')) Q) : pmE pg (pg_X xs) pg_tyl pg_cl 41 318 808 [.retAddr 0, .ref 0, .ref 147, .int x3] [] (cd f A R (em g B)) Q := by
  obtain ⟨hC, hM, hR⟩ := hS
  refine pe_aload_n (j := 1) (by decide +kernel) rfl ?_
  refine pe_aloadX_n (j := 0) (by decide +kernel) rfl ?_
  refine pe_iload_n (j := 3) (by decide +kernel) rfl ?_
  refine pe_iconstv (n := 1) (v := 1) (by decide +kernel) (by decide +kernel) ?_
  refine pz_add (by decide +kernel) rfl kz_1 (by omega) (by omega) (fun z1 hz1 => ?_)
  refine pz_ialdX (n := xs.length) (by decide +kernel) (show pg_X xs 0 = some (0, xs, 0) from rfl) rfl hz1 (by omega) (by omega) (fun v2 ev2 => ?_)
  clear hz1
  refine pe_aloadX_n (j := 0) (by decide +kernel) rfl ?_
  refine pe_iload_n (j := 3) (by decide +kernel) rfl ?_
  refine pe_iconstv (n := 2) (v := 2) (by decide +kernel) (by decide +kernel) ?_
  refine pz_add (by decide +kernel) rfl kz_2 (by omega) (by omega) (fun z3 hz3 => ?_)
  refine pz_ialdX (n := xs.length) (by decide +kernel) (show pg_X xs 0 = some (0, xs, 0) from rfl) rfl hz3 (by omega) (by omega) (fun v4 ev4 => ?_)
  clear hz3
  refine pe_aloadX_n (j := 0) (by decide +kernel) rfl ?_
  refine pe_iload_n (j := 3) (by decide +kernel) rfl ?_
  refine pe_iconstv (n := 3) (v := 3) (by decide +kernel) (by decide +kernel) ?_
  refine pz_add (by decide +kernel) rfl kz_3 (by omega) (by omega) (fun z5 hz5 => ?_)
  refine pz_ialdX (n := xs.length) (by decide +kernel) (show pg_X xs 0 = some (0, xs, 0) from rfl) rfl hz5 (by omega) (by omega) (fun v6 ev6 => ?_)
  clear hz5
  refine pe_aloadX_n (j := 0) (by decide +kernel) rfl ?_
  refine pe_iload_n (j := 3) (by decide +kernel) rfl ?_
  refine pe_iconstv (n := 4) (v := 4) (by decide +kernel) (by decide +kernel) ?_
  refine pz_add (by decide +kernel) rfl kz_4 (by omega) (by omega) (fun z7 hz7 => ?_)
  refine pz_ialdX (n := xs.length) (by decide +kernel) (show pg_X xs 0 = some (0, xs, 0) from rfl) rfl hz7 (by omega) (by omega) (fun v8 ev8 => ?_)
  clear hz7
  refine pz_callV (j := 75) (mj := 103) (by decide +kernel) (cll_V (args := [.int v8, .int v6, .int v4, .int v2]) (n := 4) (by decide +kernel) rfl rfl cd_o0 (by decide +kernel) (Nat.le_of_ble_eq_true rfl) (Nat.le_of_ble_eq_true rfl)) (CM_103 st_XO hC) (fun q9a q9b q9c q9d hqq9 => ?_)
  obtain ⟨f10, A11, R12, rq9, eq9, hIq9, hGq9, hFq9, hHq9, kq9⟩ := hqq9
  cases eq9
  refine ⟨rfl, rfl, ?_⟩
  show pmE pg (pg_X xs) pg_tyl pg_cl 41 318 832 [.retAddr 0, .ref 0, .ref 147, .int x3] [.int rq9] (cd f10 A11 R12 (em g B)) _
  refine pe_pop (by decide +kernel) rfl ?_
  refine pe_aload_n (j := 2) (by decide +kernel) rfl ?_
  refine pe_aloadX_n (j := 0) (by decide +kernel) rfl ?_
  refine pe_iload_n (j := 3) (by decide +kernel) rfl ?_
  refine pe_iconstv (n := 1) (v := 1) (by decide +kernel) (by decide +kernel) ?_
  refine pz_add (by decide +kernel) rfl kz_1 (by omega) (by omega) (fun z13 hz13 => ?_)
  refine pz_ialdX (n := xs.length) (by decide +kernel) (show pg_X xs 0 = some (0, xs, 0) from rfl) rfl hz13 (by omega) (by omega) (fun v14 ev14 => ?_)
  clear hz13
  refine pe_aloadX_n (j := 0) (by decide +kernel) rfl ?_
  refine pe_iload_n (j := 3) (by decide +kernel) rfl ?_
  refine pe_iconstv (n := 2) (v := 2) (by decide +kernel) (by decide +kernel) ?_
  refine pz_add (by decide +kernel) rfl kz_2 (by omega) (by omega) (fun z15 hz15 => ?_)
  refine pz_ialdX (n := xs.length) (by decide +kernel) (show pg_X xs 0 = some (0, xs, 0) from rfl) rfl hz15 (by omega) (by omega) (fun v16 ev16 => ?_)
  clear hz15
  refine pe_aloadX_n (j := 0) (by decide +kernel) rfl ?_
  refine pe_iload_n (j := 3) (by decide +kernel) rfl ?_
  refine pe_iconstv (n := 3) (v := 3) (by decide +kernel) (by decide +kernel) ?_
  refine pz_add (by decide +kernel) rfl kz_3 (by omega) (by omega) (fun z17 hz17 => ?_)
  refine pz_ialdX (n := xs.length) (by decide +kernel) (show pg_X xs 0 = some (0, xs, 0) from rfl) rfl hz17 (by omega) (by omega) (fun v18 ev18 => ?_)
  clear hz17
  refine pe_aloadX_n (j := 0) (by decide +kernel) rfl ?_
  refine pe_iload_n (j := 3) (by decide +kernel) rfl ?_
  refine pe_iconstv (n := 4) (v := 4) (by decide +kernel) (by decide +kernel) ?_
  refine pz_add (by decide +kernel) rfl kz_4 (by omega) (by omega) (fun z19 hz19 => ?_)
  refine pz_ialdX (n := xs.length) (by decide +kernel) (show pg_X xs 0 = some (0, xs, 0) from rfl) rfl hz19 (by omega) (by omega) (fun v20 ev20 => ?_)
  clear hz19
  show pmE pg (pg_X xs) pg_tyl pg_cl 41 318 854 [.retAddr 0, .ref 0, .ref 147, .int x3] [.int v20, .int v18, .int v16, .int v14, .ref 147] (md (cc f10 A11 R12) g B) _
  refine pz_callV (j := 78) (mj := 250) (by decide +kernel) (cll_V (args := [.int v20, .int v18, .int v16, .int v14]) (n := 4) (by decide +kernel) rfl rfl (md_o cc_len) (by decide +kernel) (Nat.le_of_ble_eq_true rfl) (Nat.le_of_ble_eq_true rfl)) (NM_250 cc_len hM) (fun q21a q21b q21c q21d hqq21 => ?_)
  obtain ⟨g22, B23, rq21, eq21, hIq21, hGq21, hFq21, kq21⟩ := hqq21
  cases eq21
  refine ⟨rfl, rfl, ?_⟩
  show pmE pg (pg_X xs) pg_tyl pg_cl 41 318 857 [.retAddr 0, .ref 0, .ref 147, .int x3] [.int rq21] (cd f10 A11 R12 (em g22 B23)) _
  refine pe_pop (by decide +kernel) rfl ?_
  refine pe_goto (off := 1619) (t := 2477) (by decide +kernel) (by decide) rfl ?_
  exact kk _ _ _ _ _ ⟨hIq9, hIq21, (RL5_t (hGq21 31 (by decide) (by decide) (by decide)) (hGq21 32 (by decide) (by decide) (by decide)) (RL4_fr hIq9 hIq21 (fun n hn => hGq9 n (tn hn (by decide)) (tn hn (by decide)) (tn hn (by decide)) (tn hn (by decide))) (fun n hn => hFq9 n (tn hn (by decide)) (tn hn (by decide)) (tn hn (by decide)) (tn hn (by decide)) (tn hn (by decide)) (tn hn (by decide)) (tn hn (by decide)) (tn hn (by decide))) (hFq21 148 (by decide) (by decide) (by decide) (by decide) (by decide) (by decide)) (hFq21 149 (by decide) (by decide) (by decide) (by decide) (by decide) (by decide)) hR.1) hR)⟩
set_option maxRecDepth 100000 in
set_option maxHeartbeats 8000000 in
theorem LC_15 {xs : List Int32} {Q : pm_R → Prop} {f : Nat → Int32} {A : Nat → List Int32} {R : Nat → Value} {g : Nat → Int32} {B : Nat → List Int32} {x3 : Int32} (h3 : 0 ≤ x3.toInt) (h4 : x3.toInt + 7 ≤ xs.length) (hl : xs.length ≤ 3584) (hS : ST f A R g B) (kk : ∀ (f' : Nat → Int32) (A' : Nat → List Int32) (R' : Nat → Value) (g' : Nat → Int32) (B' : Nat → List Int32), ST f' A' R' g' B' → pmE pg (pg_X xs) pg_tyl pg_cl 41 318 2477 [.retAddr 0, .ref 0, .ref 147, .int x3] [] (cd f' A' R' (em g' B')) Q) : pmE pg (pg_X xs) pg_tyl pg_cl 41 318 861 [.retAddr 0, .ref 0, .ref 147, .int x3] [] (cd f A R (em g B)) Q := by
  obtain ⟨hC, hM, hR⟩ := hS
  refine pe_aload_n (j := 1) (by decide +kernel) rfl ?_
  refine pe_aloadX_n (j := 0) (by decide +kernel) rfl ?_
  refine pe_iload_n (j := 3) (by decide +kernel) rfl ?_
  refine pe_iconstv (n := 1) (v := 1) (by decide +kernel) (by decide +kernel) ?_
  refine pz_add (by decide +kernel) rfl kz_1 (by omega) (by omega) (fun z1 hz1 => ?_)
  refine pz_ialdX (n := xs.length) (by decide +kernel) (show pg_X xs 0 = some (0, xs, 0) from rfl) rfl hz1 (by omega) (by omega) (fun v2 ev2 => ?_)
  clear hz1
  refine pe_aloadX_n (j := 0) (by decide +kernel) rfl ?_
  refine pe_iload_n (j := 3) (by decide +kernel) rfl ?_
  refine pe_iconstv (n := 2) (v := 2) (by decide +kernel) (by decide +kernel) ?_
  refine pz_add (by decide +kernel) rfl kz_2 (by omega) (by omega) (fun z3 hz3 => ?_)
  refine pz_ialdX (n := xs.length) (by decide +kernel) (show pg_X xs 0 = some (0, xs, 0) from rfl) rfl hz3 (by omega) (by omega) (fun v4 ev4 => ?_)
  clear hz3
  refine pe_aloadX_n (j := 0) (by decide +kernel) rfl ?_
  refine pe_iload_n (j := 3) (by decide +kernel) rfl ?_
  refine pe_iconstv (n := 3) (v := 3) (by decide +kernel) (by decide +kernel) ?_
  refine pz_add (by decide +kernel) rfl kz_3 (by omega) (by omega) (fun z5 hz5 => ?_)
  refine pz_ialdX (n := xs.length) (by decide +kernel) (show pg_X xs 0 = some (0, xs, 0) from rfl) rfl hz5 (by omega) (by omega) (fun v6 ev6 => ?_)
  clear hz5
  refine pe_aloadX_n (j := 0) (by decide +kernel) rfl ?_
  refine pe_iload_n (j := 3) (by decide +kernel) rfl ?_
  refine pe_iconstv (n := 4) (v := 4) (by decide +kernel) (by decide +kernel) ?_
  refine pz_add (by decide +kernel) rfl kz_4 (by omega) (by omega) (fun z7 hz7 => ?_)
  refine pz_ialdX (n := xs.length) (by decide +kernel) (show pg_X xs 0 = some (0, xs, 0) from rfl) rfl hz7 (by omega) (by omega) (fun v8 ev8 => ?_)
  clear hz7
  refine pe_aloadX_n (j := 0) (by decide +kernel) rfl ?_
  refine pe_iload_n (j := 3) (by decide +kernel) rfl ?_
  refine pe_iconstv (n := 5) (v := 5) (by decide +kernel) (by decide +kernel) ?_
  refine pz_add (by decide +kernel) rfl kz_5 (by omega) (by omega) (fun z9 hz9 => ?_)
  refine pz_ialdX (n := xs.length) (by decide +kernel) (show pg_X xs 0 = some (0, xs, 0) from rfl) rfl hz9 (by omega) (by omega) (fun v10 ev10 => ?_)
  clear hz9
  refine pz_callV (j := 79) (mj := 120) (by decide +kernel) (cll_V (args := [.int v10, .int v8, .int v6, .int v4, .int v2]) (n := 5) (by decide +kernel) rfl rfl cd_o0 (by decide +kernel) (Nat.le_of_ble_eq_true rfl) (Nat.le_of_ble_eq_true rfl)) (CM_120 st_XO hC) (fun q11a q11b q11c q11d hqq11 => ?_)
  obtain ⟨f12, A13, R14, rq11, eq11, hIq11, hGq11, hFq11, hHq11, kq11⟩ := hqq11
  cases eq11
  refine ⟨rfl, rfl, ?_⟩
  show pmE pg (pg_X xs) pg_tyl pg_cl 41 318 890 [.retAddr 0, .ref 0, .ref 147, .int x3] [.int rq11] (cd f12 A13 R14 (em g B)) _
  refine pe_pop (by decide +kernel) rfl ?_
  refine pe_aload_n (j := 2) (by decide +kernel) rfl ?_
  refine pe_aloadX_n (j := 0) (by decide +kernel) rfl ?_
  refine pe_iload_n (j := 3) (by decide +kernel) rfl ?_
  refine pe_iconstv (n := 1) (v := 1) (by decide +kernel) (by decide +kernel) ?_
  refine pz_add (by decide +kernel) rfl kz_1 (by omega) (by omega) (fun z15 hz15 => ?_)
  refine pz_ialdX (n := xs.length) (by decide +kernel) (show pg_X xs 0 = some (0, xs, 0) from rfl) rfl hz15 (by omega) (by omega) (fun v16 ev16 => ?_)
  clear hz15
  refine pe_aloadX_n (j := 0) (by decide +kernel) rfl ?_
  refine pe_iload_n (j := 3) (by decide +kernel) rfl ?_
  refine pe_iconstv (n := 2) (v := 2) (by decide +kernel) (by decide +kernel) ?_
  refine pz_add (by decide +kernel) rfl kz_2 (by omega) (by omega) (fun z17 hz17 => ?_)
  refine pz_ialdX (n := xs.length) (by decide +kernel) (show pg_X xs 0 = some (0, xs, 0) from rfl) rfl hz17 (by omega) (by omega) (fun v18 ev18 => ?_)
  clear hz17
  refine pe_aloadX_n (j := 0) (by decide +kernel) rfl ?_
  refine pe_iload_n (j := 3) (by decide +kernel) rfl ?_
  refine pe_iconstv (n := 3) (v := 3) (by decide +kernel) (by decide +kernel) ?_
  refine pz_add (by decide +kernel) rfl kz_3 (by omega) (by omega) (fun z19 hz19 => ?_)
  refine pz_ialdX (n := xs.length) (by decide +kernel) (show pg_X xs 0 = some (0, xs, 0) from rfl) rfl hz19 (by omega) (by omega) (fun v20 ev20 => ?_)
  clear hz19
  refine pe_aloadX_n (j := 0) (by decide +kernel) rfl ?_
  refine pe_iload_n (j := 3) (by decide +kernel) rfl ?_
  refine pe_iconstv (n := 4) (v := 4) (by decide +kernel) (by decide +kernel) ?_
  refine pz_add (by decide +kernel) rfl kz_4 (by omega) (by omega) (fun z21 hz21 => ?_)
  refine pz_ialdX (n := xs.length) (by decide +kernel) (show pg_X xs 0 = some (0, xs, 0) from rfl) rfl hz21 (by omega) (by omega) (fun v22 ev22 => ?_)
  clear hz21
  refine pe_aloadX_n (j := 0) (by decide +kernel) rfl ?_
  refine pe_iload_n (j := 3) (by decide +kernel) rfl ?_
  refine pe_iconstv (n := 5) (v := 5) (by decide +kernel) (by decide +kernel) ?_
  refine pz_add (by decide +kernel) rfl kz_5 (by omega) (by omega) (fun z23 hz23 => ?_)
  refine pz_ialdX (n := xs.length) (by decide +kernel) (show pg_X xs 0 = some (0, xs, 0) from rfl) rfl hz23 (by omega) (by omega) (fun v24 ev24 => ?_)
  clear hz23
  show pmE pg (pg_X xs) pg_tyl pg_cl 41 318 917 [.retAddr 0, .ref 0, .ref 147, .int x3] [.int v24, .int v22, .int v20, .int v18, .int v16, .ref 147] (md (cc f12 A13 R14) g B) _
  refine pz_callV (j := 82) (mj := 263) (by decide +kernel) (cll_V (args := [.int v24, .int v22, .int v20, .int v18, .int v16]) (n := 5) (by decide +kernel) rfl rfl (md_o cc_len) (by decide +kernel) (Nat.le_of_ble_eq_true rfl) (Nat.le_of_ble_eq_true rfl)) (MM_263 cc_len hM) (fun q25a q25b q25c q25d hqq25 => ?_)
  obtain ⟨g26, B27, rq25, eq25, hIq25, hGq25, hFq25, kq25⟩ := hqq25
  cases eq25
  refine ⟨rfl, rfl, ?_⟩
  show pmE pg (pg_X xs) pg_tyl pg_cl 41 318 920 [.retAddr 0, .ref 0, .ref 147, .int x3] [.int rq25] (cd f12 A13 R14 (em g26 B27)) _
  refine pe_pop (by decide +kernel) rfl ?_
  refine pe_goto (off := 1556) (t := 2477) (by decide +kernel) (by decide) rfl ?_
  exact kk _ _ _ _ _ ⟨hIq11, hIq25, (RL5_t (hGq25 31 (by decide) (by decide) (by decide)) (hGq25 32 (by decide) (by decide) (by decide)) (RL4_fr hIq11 hIq25 (fun n hn => hGq11 n (tn hn (by decide)) (tn hn (by decide))) (fun n hn => hFq11 n (tn hn (by decide)) (tn hn (by decide)) (tn hn (by decide))) (hFq25 148 (by decide) (by decide)) (hFq25 149 (by decide) (by decide)) hR.1) hR)⟩
set_option maxRecDepth 100000 in
set_option maxHeartbeats 8000000 in
theorem LC_16 {xs : List Int32} {Q : pm_R → Prop} {f : Nat → Int32} {A : Nat → List Int32} {R : Nat → Value} {g : Nat → Int32} {B : Nat → List Int32} {x3 : Int32} (h3 : 0 ≤ x3.toInt) (h4 : x3.toInt + 7 ≤ xs.length) (hl : xs.length ≤ 3584) (hS : ST f A R g B) (kk : ∀ (f' : Nat → Int32) (A' : Nat → List Int32) (R' : Nat → Value) (g' : Nat → Int32) (B' : Nat → List Int32), ST f' A' R' g' B' → pmE pg (pg_X xs) pg_tyl pg_cl 41 318 2477 [.retAddr 0, .ref 0, .ref 147, .int x3] [] (cd f' A' R' (em g' B')) Q) : pmE pg (pg_X xs) pg_tyl pg_cl 41 318 924 [.retAddr 0, .ref 0, .ref 147, .int x3] [] (cd f A R (em g B)) Q := by
  obtain ⟨hC, hM, hR⟩ := hS
  refine pe_aload_n (j := 1) (by decide +kernel) rfl ?_
  refine pe_aloadX_n (j := 0) (by decide +kernel) rfl ?_
  refine pe_iload_n (j := 3) (by decide +kernel) rfl ?_
  refine pe_iconstv (n := 1) (v := 1) (by decide +kernel) (by decide +kernel) ?_
  refine pz_add (by decide +kernel) rfl kz_1 (by omega) (by omega) (fun z1 hz1 => ?_)
  refine pz_ialdX (n := xs.length) (by decide +kernel) (show pg_X xs 0 = some (0, xs, 0) from rfl) rfl hz1 (by omega) (by omega) (fun v2 ev2 => ?_)
  clear hz1
  refine pe_aloadX_n (j := 0) (by decide +kernel) rfl ?_
  refine pe_iload_n (j := 3) (by decide +kernel) rfl ?_
  refine pe_iconstv (n := 2) (v := 2) (by decide +kernel) (by decide +kernel) ?_
  refine pz_add (by decide +kernel) rfl kz_2 (by omega) (by omega) (fun z3 hz3 => ?_)
  refine pz_ialdX (n := xs.length) (by decide +kernel) (show pg_X xs 0 = some (0, xs, 0) from rfl) rfl hz3 (by omega) (by omega) (fun v4 ev4 => ?_)
  clear hz3
  refine pe_aloadX_n (j := 0) (by decide +kernel) rfl ?_
  refine pe_iload_n (j := 3) (by decide +kernel) rfl ?_
  refine pe_iconstv (n := 3) (v := 3) (by decide +kernel) (by decide +kernel) ?_
  refine pz_add (by decide +kernel) rfl kz_3 (by omega) (by omega) (fun z5 hz5 => ?_)
  refine pz_ialdX (n := xs.length) (by decide +kernel) (show pg_X xs 0 = some (0, xs, 0) from rfl) rfl hz5 (by omega) (by omega) (fun v6 ev6 => ?_)
  clear hz5
  refine pe_aloadX_n (j := 0) (by decide +kernel) rfl ?_
  refine pe_iload_n (j := 3) (by decide +kernel) rfl ?_
  refine pe_iconstv (n := 4) (v := 4) (by decide +kernel) (by decide +kernel) ?_
  refine pz_add (by decide +kernel) rfl kz_4 (by omega) (by omega) (fun z7 hz7 => ?_)
  refine pz_ialdX (n := xs.length) (by decide +kernel) (show pg_X xs 0 = some (0, xs, 0) from rfl) rfl hz7 (by omega) (by omega) (fun v8 ev8 => ?_)
  clear hz7
  refine pe_aloadX_n (j := 0) (by decide +kernel) rfl ?_
  refine pe_iload_n (j := 3) (by decide +kernel) rfl ?_
  refine pe_iconstv (n := 5) (v := 5) (by decide +kernel) (by decide +kernel) ?_
  refine pz_add (by decide +kernel) rfl kz_5 (by omega) (by omega) (fun z9 hz9 => ?_)
  refine pz_ialdX (n := xs.length) (by decide +kernel) (show pg_X xs 0 = some (0, xs, 0) from rfl) rfl hz9 (by omega) (by omega) (fun v10 ev10 => ?_)
  clear hz9
  refine pe_aloadX_n (j := 0) (by decide +kernel) rfl ?_
  refine pe_iload_n (j := 3) (by decide +kernel) rfl ?_
  refine pe_bipushv (n := 6) (v := 6) (by decide +kernel) (by decide +kernel) ?_
  refine pz_add (by decide +kernel) rfl kz_6 (by omega) (by omega) (fun z11 hz11 => ?_)
  refine pz_ialdX (n := xs.length) (by decide +kernel) (show pg_X xs 0 = some (0, xs, 0) from rfl) rfl hz11 (by omega) (by omega) (fun v12 ev12 => ?_)
  clear hz11
  refine pz_callV (j := 83) (mj := 130) (by decide +kernel) (cll_V (args := [.int v12, .int v10, .int v8, .int v6, .int v4, .int v2]) (n := 6) (by decide +kernel) rfl rfl cd_o0 (by decide +kernel) (Nat.le_of_ble_eq_true rfl) (Nat.le_of_ble_eq_true rfl)) (CM_130 st_XO hC) (fun q13a q13b q13c q13d hqq13 => ?_)
  obtain ⟨f14, A15, R16, rq13, eq13, hIq13, hGq13, hFq13, hHq13, kq13⟩ := hqq13
  cases eq13
  refine ⟨rfl, rfl, ?_⟩
  show pmE pg (pg_X xs) pg_tyl pg_cl 41 318 959 [.retAddr 0, .ref 0, .ref 147, .int x3] [.int rq13] (cd f14 A15 R16 (em g B)) _
  refine pe_pop (by decide +kernel) rfl ?_
  refine pe_aload_n (j := 2) (by decide +kernel) rfl ?_
  refine pe_aloadX_n (j := 0) (by decide +kernel) rfl ?_
  refine pe_iload_n (j := 3) (by decide +kernel) rfl ?_
  refine pe_iconstv (n := 1) (v := 1) (by decide +kernel) (by decide +kernel) ?_
  refine pz_add (by decide +kernel) rfl kz_1 (by omega) (by omega) (fun z17 hz17 => ?_)
  refine pz_ialdX (n := xs.length) (by decide +kernel) (show pg_X xs 0 = some (0, xs, 0) from rfl) rfl hz17 (by omega) (by omega) (fun v18 ev18 => ?_)
  clear hz17
  refine pe_aloadX_n (j := 0) (by decide +kernel) rfl ?_
  refine pe_iload_n (j := 3) (by decide +kernel) rfl ?_
  refine pe_iconstv (n := 2) (v := 2) (by decide +kernel) (by decide +kernel) ?_
  refine pz_add (by decide +kernel) rfl kz_2 (by omega) (by omega) (fun z19 hz19 => ?_)
  refine pz_ialdX (n := xs.length) (by decide +kernel) (show pg_X xs 0 = some (0, xs, 0) from rfl) rfl hz19 (by omega) (by omega) (fun v20 ev20 => ?_)
  clear hz19
  refine pe_aloadX_n (j := 0) (by decide +kernel) rfl ?_
  refine pe_iload_n (j := 3) (by decide +kernel) rfl ?_
  refine pe_iconstv (n := 3) (v := 3) (by decide +kernel) (by decide +kernel) ?_
  refine pz_add (by decide +kernel) rfl kz_3 (by omega) (by omega) (fun z21 hz21 => ?_)
  refine pz_ialdX (n := xs.length) (by decide +kernel) (show pg_X xs 0 = some (0, xs, 0) from rfl) rfl hz21 (by omega) (by omega) (fun v22 ev22 => ?_)
  clear hz21
  refine pe_aloadX_n (j := 0) (by decide +kernel) rfl ?_
  refine pe_iload_n (j := 3) (by decide +kernel) rfl ?_
  refine pe_iconstv (n := 4) (v := 4) (by decide +kernel) (by decide +kernel) ?_
  refine pz_add (by decide +kernel) rfl kz_4 (by omega) (by omega) (fun z23 hz23 => ?_)
  refine pz_ialdX (n := xs.length) (by decide +kernel) (show pg_X xs 0 = some (0, xs, 0) from rfl) rfl hz23 (by omega) (by omega) (fun v24 ev24 => ?_)
  clear hz23
  refine pe_aloadX_n (j := 0) (by decide +kernel) rfl ?_
  refine pe_iload_n (j := 3) (by decide +kernel) rfl ?_
  refine pe_iconstv (n := 5) (v := 5) (by decide +kernel) (by decide +kernel) ?_
  refine pz_add (by decide +kernel) rfl kz_5 (by omega) (by omega) (fun z25 hz25 => ?_)
  refine pz_ialdX (n := xs.length) (by decide +kernel) (show pg_X xs 0 = some (0, xs, 0) from rfl) rfl hz25 (by omega) (by omega) (fun v26 ev26 => ?_)
  clear hz25
  refine pe_aloadX_n (j := 0) (by decide +kernel) rfl ?_
  refine pe_iload_n (j := 3) (by decide +kernel) rfl ?_
  refine pe_bipushv (n := 6) (v := 6) (by decide +kernel) (by decide +kernel) ?_
  refine pz_add (by decide +kernel) rfl kz_6 (by omega) (by omega) (fun z27 hz27 => ?_)
  refine pz_ialdX (n := xs.length) (by decide +kernel) (show pg_X xs 0 = some (0, xs, 0) from rfl) rfl hz27 (by omega) (by omega) (fun v28 ev28 => ?_)
  clear hz27
  show pmE pg (pg_X xs) pg_tyl pg_cl 41 318 992 [.retAddr 0, .ref 0, .ref 147, .int x3] [.int v28, .int v26, .int v24, .int v22, .int v20, .int v18, .ref 147] (md (cc f14 A15 R16) g B) _
  refine pz_callV (j := 87) (mj := 264) (by decide +kernel) (cll_V (args := [.int v28, .int v26, .int v24, .int v22, .int v20, .int v18]) (n := 6) (by decide +kernel) rfl rfl (md_o cc_len) (by decide +kernel) (Nat.le_of_ble_eq_true rfl) (Nat.le_of_ble_eq_true rfl)) (MM_264 cc_len hM) (fun q29a q29b q29c q29d hqq29 => ?_)
  obtain ⟨g30, B31, rq29, eq29, hIq29, hGq29, hFq29, kq29⟩ := hqq29
  cases eq29
  refine ⟨rfl, rfl, ?_⟩
  show pmE pg (pg_X xs) pg_tyl pg_cl 41 318 995 [.retAddr 0, .ref 0, .ref 147, .int x3] [.int rq29] (cd f14 A15 R16 (em g30 B31)) _
  refine pe_pop (by decide +kernel) rfl ?_
  refine pe_goto (off := 1481) (t := 2477) (by decide +kernel) (by decide) rfl ?_
  exact kk _ _ _ _ _ ⟨hIq13, hIq29, (RL5_t (hGq29 31 (by decide) (by decide) (by decide) (by decide) (by decide)) (hGq29 32 (by decide) (by decide) (by decide) (by decide) (by decide)) (RL4_fr hIq13 hIq29 (fun n hn => hGq13 n (tn hn (by decide)) (tn hn (by decide)) (tn hn (by decide)) (tn hn (by decide)) (tn hn (by decide)) (tn hn (by decide))) (fun n hn => hFq13 n (tn hn (by decide)) (tn hn (by decide)) (tn hn (by decide)) (tn hn (by decide)) (tn hn (by decide)) (tn hn (by decide))) (hFq29 148 (by decide) (by decide) (by decide) (by decide)) (hFq29 149 (by decide) (by decide) (by decide) (by decide)) hR.1) hR)⟩
end
section
set_option maxRecDepth 100000 in
set_option maxHeartbeats 8000000 in
theorem LC_17 {xs : List Int32} {Q : pm_R → Prop} {f : Nat → Int32} {A : Nat → List Int32} {R : Nat → Value} {g : Nat → Int32} {B : Nat → List Int32} {x3 : Int32} (h3 : 0 ≤ x3.toInt) (h4 : x3.toInt + 7 ≤ xs.length) (hl : xs.length ≤ 3584) (hS : ST f A R g B) (kk : ∀ (f' : Nat → Int32) (A' : Nat → List Int32) (R' : Nat → Value) (g' : Nat → Int32) (B' : Nat → List Int32), ST f' A' R' g' B' → pmE pg (pg_X xs) pg_tyl pg_cl 41 318 2477 [.retAddr 0, .ref 0, .ref 147, .int x3] [] (cd f' A' R' (em g' B')) Q) : pmE pg (pg_X xs) pg_tyl pg_cl 41 318 999 [.retAddr 0, .ref 0, .ref 147, .int x3] [] (cd f A R (em g B)) Q := by
  obtain ⟨hC, hM, hR⟩ := hS
  refine pe_aload_n (j := 1) (by decide +kernel) rfl ?_
  refine pe_aloadX_n (j := 0) (by decide +kernel) rfl ?_
  refine pe_iload_n (j := 3) (by decide +kernel) rfl ?_
  refine pe_iconstv (n := 1) (v := 1) (by decide +kernel) (by decide +kernel) ?_
  refine pz_add (by decide +kernel) rfl kz_1 (by omega) (by omega) (fun z1 hz1 => ?_)
  refine pz_ialdX (n := xs.length) (by decide +kernel) (show pg_X xs 0 = some (0, xs, 0) from rfl) rfl hz1 (by omega) (by omega) (fun v2 ev2 => ?_)
  clear hz1
  refine pe_aloadX_n (j := 0) (by decide +kernel) rfl ?_
  refine pe_iload_n (j := 3) (by decide +kernel) rfl ?_
  refine pe_iconstv (n := 2) (v := 2) (by decide +kernel) (by decide +kernel) ?_
  refine pz_add (by decide +kernel) rfl kz_2 (by omega) (by omega) (fun z3 hz3 => ?_)
  refine pz_ialdX (n := xs.length) (by decide +kernel) (show pg_X xs 0 = some (0, xs, 0) from rfl) rfl hz3 (by omega) (by omega) (fun v4 ev4 => ?_)
  clear hz3
  refine pe_aloadX_n (j := 0) (by decide +kernel) rfl ?_
  refine pe_iload_n (j := 3) (by decide +kernel) rfl ?_
  refine pe_iconstv (n := 3) (v := 3) (by decide +kernel) (by decide +kernel) ?_
  refine pz_add (by decide +kernel) rfl kz_3 (by omega) (by omega) (fun z5 hz5 => ?_)
  refine pz_ialdX (n := xs.length) (by decide +kernel) (show pg_X xs 0 = some (0, xs, 0) from rfl) rfl hz5 (by omega) (by omega) (fun v6 ev6 => ?_)
  clear hz5
  refine pe_aloadX_n (j := 0) (by decide +kernel) rfl ?_
  refine pe_iload_n (j := 3) (by decide +kernel) rfl ?_
  refine pe_iconstv (n := 4) (v := 4) (by decide +kernel) (by decide +kernel) ?_
  refine pz_add (by decide +kernel) rfl kz_4 (by omega) (by omega) (fun z7 hz7 => ?_)
  refine pz_ialdX (n := xs.length) (by decide +kernel) (show pg_X xs 0 = some (0, xs, 0) from rfl) rfl hz7 (by omega) (by omega) (fun v8 ev8 => ?_)
  clear hz7
  refine pe_aloadX_n (j := 0) (by decide +kernel) rfl ?_
  refine pe_iload_n (j := 3) (by decide +kernel) rfl ?_
  refine pe_iconstv (n := 5) (v := 5) (by decide +kernel) (by decide +kernel) ?_
  refine pz_add (by decide +kernel) rfl kz_5 (by omega) (by omega) (fun z9 hz9 => ?_)
  refine pz_ialdX (n := xs.length) (by decide +kernel) (show pg_X xs 0 = some (0, xs, 0) from rfl) rfl hz9 (by omega) (by omega) (fun v10 ev10 => ?_)
  clear hz9
  refine pe_aloadX_n (j := 0) (by decide +kernel) rfl ?_
  refine pe_iload_n (j := 3) (by decide +kernel) rfl ?_
  refine pe_bipushv (n := 6) (v := 6) (by decide +kernel) (by decide +kernel) ?_
  refine pz_add (by decide +kernel) rfl kz_6 (by omega) (by omega) (fun z11 hz11 => ?_)
  refine pz_ialdX (n := xs.length) (by decide +kernel) (show pg_X xs 0 = some (0, xs, 0) from rfl) rfl hz11 (by omega) (by omega) (fun v12 ev12 => ?_)
  clear hz11
  refine pz_if_eq (off := 7) (t := 1038) (by decide +kernel) (by decide) rfl rfl (fun h13 => ?_) (fun h13 => ?_)
  · skip
    refine pe_iconstv (n := 0) (v := 0) (by decide +kernel) (by decide +kernel) ?_
    refine pz_callV (j := 88) (mj := 139) (by decide +kernel) (cll_V (args := [.int 0, .int v10, .int v8, .int v6, .int v4, .int v2]) (n := 6) (by decide +kernel) rfl rfl cd_o0 (by decide +kernel) (Nat.le_of_ble_eq_true rfl) (Nat.le_of_ble_eq_true rfl)) ((pmE_PS (CM_139 st_XO hC))) (fun q14a q14b q14c q14d hqq14 => ?_)
    obtain ⟨⟨f15, A16, R17, lq14, eq14, hIq14, hGq14, hFq14, hHq14, kq14⟩, kpq14⟩ := hqq14
    cases eq14
    refine ⟨rfl, rfl, ?_⟩
    show pmE pg (pg_X xs) pg_tyl pg_cl 41 318 1042 [.retAddr 0, .ref 0, .ref 147, .int x3] [.long lq14] (cd f15 A16 R17 (em g B)) _
    refine pe_aload_n (j := 2) (by decide +kernel) rfl ?_
    refine pe_aloadX_n (j := 0) (by decide +kernel) rfl ?_
    refine pe_iload_n (j := 3) (by decide +kernel) rfl ?_
    refine pe_iconstv (n := 1) (v := 1) (by decide +kernel) (by decide +kernel) ?_
    refine pz_add (by decide +kernel) rfl kz_1 (by omega) (by omega) (fun z18 hz18 => ?_)
    refine pz_ialdX (n := xs.length) (by decide +kernel) (show pg_X xs 0 = some (0, xs, 0) from rfl) rfl hz18 (by omega) (by omega) (fun v19 ev19 => ?_)
    clear hz18
    refine pe_aloadX_n (j := 0) (by decide +kernel) rfl ?_
    refine pe_iload_n (j := 3) (by decide +kernel) rfl ?_
    refine pe_iconstv (n := 2) (v := 2) (by decide +kernel) (by decide +kernel) ?_
    refine pz_add (by decide +kernel) rfl kz_2 (by omega) (by omega) (fun z20 hz20 => ?_)
    refine pz_ialdX (n := xs.length) (by decide +kernel) (show pg_X xs 0 = some (0, xs, 0) from rfl) rfl hz20 (by omega) (by omega) (fun v21 ev21 => ?_)
    clear hz20
    refine pe_aloadX_n (j := 0) (by decide +kernel) rfl ?_
    refine pe_iload_n (j := 3) (by decide +kernel) rfl ?_
    refine pe_iconstv (n := 3) (v := 3) (by decide +kernel) (by decide +kernel) ?_
    refine pz_add (by decide +kernel) rfl kz_3 (by omega) (by omega) (fun z22 hz22 => ?_)
    refine pz_ialdX (n := xs.length) (by decide +kernel) (show pg_X xs 0 = some (0, xs, 0) from rfl) rfl hz22 (by omega) (by omega) (fun v23 ev23 => ?_)
    clear hz22
    refine pe_aloadX_n (j := 0) (by decide +kernel) rfl ?_
    refine pe_iload_n (j := 3) (by decide +kernel) rfl ?_
    refine pe_iconstv (n := 4) (v := 4) (by decide +kernel) (by decide +kernel) ?_
    refine pz_add (by decide +kernel) rfl kz_4 (by omega) (by omega) (fun z24 hz24 => ?_)
    refine pz_ialdX (n := xs.length) (by decide +kernel) (show pg_X xs 0 = some (0, xs, 0) from rfl) rfl hz24 (by omega) (by omega) (fun v25 ev25 => ?_)
    clear hz24
    refine pe_aloadX_n (j := 0) (by decide +kernel) rfl ?_
    refine pe_iload_n (j := 3) (by decide +kernel) rfl ?_
    refine pe_iconstv (n := 5) (v := 5) (by decide +kernel) (by decide +kernel) ?_
    refine pz_add (by decide +kernel) rfl kz_5 (by omega) (by omega) (fun z26 hz26 => ?_)
    refine pz_ialdX (n := xs.length) (by decide +kernel) (show pg_X xs 0 = some (0, xs, 0) from rfl) rfl hz26 (by omega) (by omega) (fun v27 ev27 => ?_)
    clear hz26
    refine pe_aloadX_n (j := 0) (by decide +kernel) rfl ?_
    refine pe_iload_n (j := 3) (by decide +kernel) rfl ?_
    refine pe_bipushv (n := 6) (v := 6) (by decide +kernel) (by decide +kernel) ?_
    refine pz_add (by decide +kernel) rfl kz_6 (by omega) (by omega) (fun z28 hz28 => ?_)
    refine pz_ialdX (n := xs.length) (by decide +kernel) (show pg_X xs 0 = some (0, xs, 0) from rfl) rfl hz28 (by omega) (by omega) (fun v29 ev29 => ?_)
    clear hz28
    refine pz_if_eq (off := 7) (t := 1081) (by decide +kernel) (by decide) rfl rfl (fun h30 => ?_) (fun h30 => ?_)
    · skip
      refine pe_iconstv (n := 0) (v := 0) (by decide +kernel) (by decide +kernel) ?_
      show pmE pg (pg_X xs) pg_tyl pg_cl 41 318 1082 [.retAddr 0, .ref 0, .ref 147, .int x3] [.int 0, .int v27, .int v25, .int v23, .int v21, .int v19, .ref 147, .long lq14] (md (cc f15 A16 R17) g B) _
      refine pz_callV (j := 92) (mj := 272) (by decide +kernel) (cll_V (args := [.int 0, .int v27, .int v25, .int v23, .int v21, .int v19]) (n := 6) (by decide +kernel) rfl rfl (md_o cc_len) (by decide +kernel) (Nat.le_of_ble_eq_true rfl) (Nat.le_of_ble_eq_true rfl)) ((pmE_PS (MM_272 cc_len hM))) (fun q31a q31b q31c q31d hqq31 => ?_)
      obtain ⟨⟨g32, B33, lq31, eq31, hIq31, hGq31, hFq31, kq31⟩, kpq31⟩ := hqq31
      cases eq31
      refine ⟨rfl, rfl, ?_⟩
      show pmE pg (pg_X xs) pg_tyl pg_cl 41 318 1085 [.retAddr 0, .ref 0, .ref 147, .int x3] [.long lq31, .long lq14] (cd f15 A16 R17 (em g32 B33)) _
      obtain ⟨kA, psA⟩ := kpq14
      obtain ⟨kB, psB⟩ := kpq31
      have psA : PS (pg_X xs) kA 139 0 [.ref 0, .int v2, .int v4, .int v6, .int v8, .int v10, .int 0] [] (cd f A R (em g B)) (some (.long lq14)) (cd f15 A16 R17 (em g B)) := psA
      have psB : PS (pg_X xs) kB 272 0 [.ref 147, .int v19, .int v21, .int v23, .int v25, .int v27, .int 0, pm_dead, pm_dead, pm_dead] [] (cd f15 A16 R17 (em g B)) (some (.long lq31)) (cd f15 A16 R17 (em g32 B33)) := psB
      rw [show v19 = v2 from ev19.trans ev2.symm] at psB
      rw [show v21 = v4 from ev21.trans ev4.symm] at psB
      rw [show v23 = v6 from ev23.trans ev6.symm] at psB
      rw [show v25 = v8 from ev25.trans ev8.symm] at psB
      rw [show v27 = v10 from ev27.trans ev10.symm] at psB
      have hre := RC_17 hR.1.1 psA psB
      have heq : lq14.toInt = lq31.toInt := by
        injection hre with h
        injection h with h
        rw [h]
      refine pe_lcmp (by decide +kernel) ?_
      rw [show lg_cmp lq14 lq31 = 0 from cmp_0.mpr heq]
      refine pz_if_eq (off := 1391) (t := 2477) (by decide +kernel) (by decide) rfl rfl (fun _ => ?_) (fun hne => absurd (show (0 : Int32).toInt = 0 by decide +kernel) hne)
      exact kk _ _ _ _ _ ⟨hIq14, hIq31, (RL5_t (hGq31 31 (by decide) (by decide) (by decide) (by decide) (by decide)) (hGq31 32 (by decide) (by decide) (by decide) (by decide) (by decide)) (RL4_fr hIq14 hIq31 (fun n hn => hGq14 n (tn hn (by decide)) (tn hn (by decide)) (tn hn (by decide)) (tn hn (by decide)) (tn hn (by decide)) (tn hn (by decide))) (fun n hn => hFq14 n (tn hn (by decide)) (tn hn (by decide)) (tn hn (by decide)) (tn hn (by decide)) (tn hn (by decide)) (tn hn (by decide))) (hFq31 148 (by decide) (by decide) (by decide) (by decide)) (hFq31 149 (by decide) (by decide) (by decide) (by decide)) hR.1) hR)⟩
    · skip
      refine pe_iconstv (n := 1) (v := 1) (by decide +kernel) (by decide +kernel) ?_
      refine pe_goto (off := 4) (t := 1082) (by decide +kernel) (by decide) rfl ?_
      show pmE pg (pg_X xs) pg_tyl pg_cl 41 318 1082 [.retAddr 0, .ref 0, .ref 147, .int x3] [.int 1, .int v27, .int v25, .int v23, .int v21, .int v19, .ref 147, .long lq14] (md (cc f15 A16 R17) g B) _
      refine pz_callV (j := 92) (mj := 272) (by decide +kernel) (cll_V (args := [.int 1, .int v27, .int v25, .int v23, .int v21, .int v19]) (n := 6) (by decide +kernel) rfl rfl (md_o cc_len) (by decide +kernel) (Nat.le_of_ble_eq_true rfl) (Nat.le_of_ble_eq_true rfl)) ((pmE_PS (MM_272 cc_len hM))) (fun q34a q34b q34c q34d hqq34 => ?_)
      obtain ⟨⟨g35, B36, lq34, eq34, hIq34, hGq34, hFq34, kq34⟩, kpq34⟩ := hqq34
      cases eq34
      refine ⟨rfl, rfl, ?_⟩
      show pmE pg (pg_X xs) pg_tyl pg_cl 41 318 1085 [.retAddr 0, .ref 0, .ref 147, .int x3] [.long lq34, .long lq14] (cd f15 A16 R17 (em g35 B36)) _
      rw [show v29 = v12 from ev29.trans ev12.symm] at h30
      exact absurd h13 h30
  · skip
    refine pe_iconstv (n := 1) (v := 1) (by decide +kernel) (by decide +kernel) ?_
    refine pe_goto (off := 4) (t := 1039) (by decide +kernel) (by decide) rfl ?_
    refine pz_callV (j := 88) (mj := 139) (by decide +kernel) (cll_V (args := [.int 1, .int v10, .int v8, .int v6, .int v4, .int v2]) (n := 6) (by decide +kernel) rfl rfl cd_o0 (by decide +kernel) (Nat.le_of_ble_eq_true rfl) (Nat.le_of_ble_eq_true rfl)) ((pmE_PS (CM_139 st_XO hC))) (fun q37a q37b q37c q37d hqq37 => ?_)
    obtain ⟨⟨f38, A39, R40, lq37, eq37, hIq37, hGq37, hFq37, hHq37, kq37⟩, kpq37⟩ := hqq37
    cases eq37
    refine ⟨rfl, rfl, ?_⟩
    show pmE pg (pg_X xs) pg_tyl pg_cl 41 318 1042 [.retAddr 0, .ref 0, .ref 147, .int x3] [.long lq37] (cd f38 A39 R40 (em g B)) _
    refine pe_aload_n (j := 2) (by decide +kernel) rfl ?_
    refine pe_aloadX_n (j := 0) (by decide +kernel) rfl ?_
    refine pe_iload_n (j := 3) (by decide +kernel) rfl ?_
    refine pe_iconstv (n := 1) (v := 1) (by decide +kernel) (by decide +kernel) ?_
    refine pz_add (by decide +kernel) rfl kz_1 (by omega) (by omega) (fun z41 hz41 => ?_)
    refine pz_ialdX (n := xs.length) (by decide +kernel) (show pg_X xs 0 = some (0, xs, 0) from rfl) rfl hz41 (by omega) (by omega) (fun v42 ev42 => ?_)
    clear hz41
    refine pe_aloadX_n (j := 0) (by decide +kernel) rfl ?_
    refine pe_iload_n (j := 3) (by decide +kernel) rfl ?_
    refine pe_iconstv (n := 2) (v := 2) (by decide +kernel) (by decide +kernel) ?_
    refine pz_add (by decide +kernel) rfl kz_2 (by omega) (by omega) (fun z43 hz43 => ?_)
    refine pz_ialdX (n := xs.length) (by decide +kernel) (show pg_X xs 0 = some (0, xs, 0) from rfl) rfl hz43 (by omega) (by omega) (fun v44 ev44 => ?_)
    clear hz43
    refine pe_aloadX_n (j := 0) (by decide +kernel) rfl ?_
    refine pe_iload_n (j := 3) (by decide +kernel) rfl ?_
    refine pe_iconstv (n := 3) (v := 3) (by decide +kernel) (by decide +kernel) ?_
    refine pz_add (by decide +kernel) rfl kz_3 (by omega) (by omega) (fun z45 hz45 => ?_)
    refine pz_ialdX (n := xs.length) (by decide +kernel) (show pg_X xs 0 = some (0, xs, 0) from rfl) rfl hz45 (by omega) (by omega) (fun v46 ev46 => ?_)
    clear hz45
    refine pe_aloadX_n (j := 0) (by decide +kernel) rfl ?_
    refine pe_iload_n (j := 3) (by decide +kernel) rfl ?_
    refine pe_iconstv (n := 4) (v := 4) (by decide +kernel) (by decide +kernel) ?_
    refine pz_add (by decide +kernel) rfl kz_4 (by omega) (by omega) (fun z47 hz47 => ?_)
    refine pz_ialdX (n := xs.length) (by decide +kernel) (show pg_X xs 0 = some (0, xs, 0) from rfl) rfl hz47 (by omega) (by omega) (fun v48 ev48 => ?_)
    clear hz47
    refine pe_aloadX_n (j := 0) (by decide +kernel) rfl ?_
    refine pe_iload_n (j := 3) (by decide +kernel) rfl ?_
    refine pe_iconstv (n := 5) (v := 5) (by decide +kernel) (by decide +kernel) ?_
    refine pz_add (by decide +kernel) rfl kz_5 (by omega) (by omega) (fun z49 hz49 => ?_)
    refine pz_ialdX (n := xs.length) (by decide +kernel) (show pg_X xs 0 = some (0, xs, 0) from rfl) rfl hz49 (by omega) (by omega) (fun v50 ev50 => ?_)
    clear hz49
    refine pe_aloadX_n (j := 0) (by decide +kernel) rfl ?_
    refine pe_iload_n (j := 3) (by decide +kernel) rfl ?_
    refine pe_bipushv (n := 6) (v := 6) (by decide +kernel) (by decide +kernel) ?_
    refine pz_add (by decide +kernel) rfl kz_6 (by omega) (by omega) (fun z51 hz51 => ?_)
    refine pz_ialdX (n := xs.length) (by decide +kernel) (show pg_X xs 0 = some (0, xs, 0) from rfl) rfl hz51 (by omega) (by omega) (fun v52 ev52 => ?_)
    clear hz51
    refine pz_if_eq (off := 7) (t := 1081) (by decide +kernel) (by decide) rfl rfl (fun h53 => ?_) (fun h53 => ?_)
    · skip
      refine pe_iconstv (n := 0) (v := 0) (by decide +kernel) (by decide +kernel) ?_
      show pmE pg (pg_X xs) pg_tyl pg_cl 41 318 1082 [.retAddr 0, .ref 0, .ref 147, .int x3] [.int 0, .int v50, .int v48, .int v46, .int v44, .int v42, .ref 147, .long lq37] (md (cc f38 A39 R40) g B) _
      refine pz_callV (j := 92) (mj := 272) (by decide +kernel) (cll_V (args := [.int 0, .int v50, .int v48, .int v46, .int v44, .int v42]) (n := 6) (by decide +kernel) rfl rfl (md_o cc_len) (by decide +kernel) (Nat.le_of_ble_eq_true rfl) (Nat.le_of_ble_eq_true rfl)) ((pmE_PS (MM_272 cc_len hM))) (fun q54a q54b q54c q54d hqq54 => ?_)
      obtain ⟨⟨g55, B56, lq54, eq54, hIq54, hGq54, hFq54, kq54⟩, kpq54⟩ := hqq54
      cases eq54
      refine ⟨rfl, rfl, ?_⟩
      show pmE pg (pg_X xs) pg_tyl pg_cl 41 318 1085 [.retAddr 0, .ref 0, .ref 147, .int x3] [.long lq54, .long lq37] (cd f38 A39 R40 (em g55 B56)) _
      rw [show v52 = v12 from ev52.trans ev12.symm] at h53
      exact absurd h53 h13
    · skip
      refine pe_iconstv (n := 1) (v := 1) (by decide +kernel) (by decide +kernel) ?_
      refine pe_goto (off := 4) (t := 1082) (by decide +kernel) (by decide) rfl ?_
      show pmE pg (pg_X xs) pg_tyl pg_cl 41 318 1082 [.retAddr 0, .ref 0, .ref 147, .int x3] [.int 1, .int v50, .int v48, .int v46, .int v44, .int v42, .ref 147, .long lq37] (md (cc f38 A39 R40) g B) _
      refine pz_callV (j := 92) (mj := 272) (by decide +kernel) (cll_V (args := [.int 1, .int v50, .int v48, .int v46, .int v44, .int v42]) (n := 6) (by decide +kernel) rfl rfl (md_o cc_len) (by decide +kernel) (Nat.le_of_ble_eq_true rfl) (Nat.le_of_ble_eq_true rfl)) ((pmE_PS (MM_272 cc_len hM))) (fun q57a q57b q57c q57d hqq57 => ?_)
      obtain ⟨⟨g58, B59, lq57, eq57, hIq57, hGq57, hFq57, kq57⟩, kpq57⟩ := hqq57
      cases eq57
      refine ⟨rfl, rfl, ?_⟩
      show pmE pg (pg_X xs) pg_tyl pg_cl 41 318 1085 [.retAddr 0, .ref 0, .ref 147, .int x3] [.long lq57, .long lq37] (cd f38 A39 R40 (em g58 B59)) _
      obtain ⟨kA, psA⟩ := kpq37
      obtain ⟨kB, psB⟩ := kpq57
      have psA : PS (pg_X xs) kA 139 0 [.ref 0, .int v2, .int v4, .int v6, .int v8, .int v10, .int 1] [] (cd f A R (em g B)) (some (.long lq37)) (cd f38 A39 R40 (em g B)) := psA
      have psB : PS (pg_X xs) kB 272 0 [.ref 147, .int v42, .int v44, .int v46, .int v48, .int v50, .int 1, pm_dead, pm_dead, pm_dead] [] (cd f38 A39 R40 (em g B)) (some (.long lq57)) (cd f38 A39 R40 (em g58 B59)) := psB
      rw [show v42 = v2 from ev42.trans ev2.symm] at psB
      rw [show v44 = v4 from ev44.trans ev4.symm] at psB
      rw [show v46 = v6 from ev46.trans ev6.symm] at psB
      rw [show v48 = v8 from ev48.trans ev8.symm] at psB
      rw [show v50 = v10 from ev50.trans ev10.symm] at psB
      have hre := RC_17 hR.1.1 psA psB
      have heq : lq37.toInt = lq57.toInt := by
        injection hre with h
        injection h with h
        rw [h]
      refine pe_lcmp (by decide +kernel) ?_
      rw [show lg_cmp lq37 lq57 = 0 from cmp_0.mpr heq]
      refine pz_if_eq (off := 1391) (t := 2477) (by decide +kernel) (by decide) rfl rfl (fun _ => ?_) (fun hne => absurd (show (0 : Int32).toInt = 0 by decide +kernel) hne)
      exact kk _ _ _ _ _ ⟨hIq37, hIq57, (RL5_t (hGq57 31 (by decide) (by decide) (by decide) (by decide) (by decide)) (hGq57 32 (by decide) (by decide) (by decide) (by decide) (by decide)) (RL4_fr hIq37 hIq57 (fun n hn => hGq37 n (tn hn (by decide)) (tn hn (by decide)) (tn hn (by decide)) (tn hn (by decide)) (tn hn (by decide)) (tn hn (by decide))) (fun n hn => hFq37 n (tn hn (by decide)) (tn hn (by decide)) (tn hn (by decide)) (tn hn (by decide)) (tn hn (by decide)) (tn hn (by decide))) (hFq57 148 (by decide) (by decide) (by decide) (by decide)) (hFq57 149 (by decide) (by decide) (by decide) (by decide)) hR.1) hR)⟩
set_option maxRecDepth 100000 in
set_option maxHeartbeats 8000000 in
theorem LC_18 {xs : List Int32} {Q : pm_R → Prop} {f : Nat → Int32} {A : Nat → List Int32} {R : Nat → Value} {g : Nat → Int32} {B : Nat → List Int32} {x3 : Int32} (h3 : 0 ≤ x3.toInt) (h4 : x3.toInt + 7 ≤ xs.length) (hl : xs.length ≤ 3584) (hS : ST f A R g B) (kk : ∀ (f' : Nat → Int32) (A' : Nat → List Int32) (R' : Nat → Value) (g' : Nat → Int32) (B' : Nat → List Int32), ST f' A' R' g' B' → pmE pg (pg_X xs) pg_tyl pg_cl 41 318 2477 [.retAddr 0, .ref 0, .ref 147, .int x3] [] (cd f' A' R' (em g' B')) Q) : pmE pg (pg_X xs) pg_tyl pg_cl 41 318 1091 [.retAddr 0, .ref 0, .ref 147, .int x3] [] (cd f A R (em g B)) Q := by
  obtain ⟨hC, hM, hR⟩ := hS
  refine pe_aload_n (j := 1) (by decide +kernel) rfl ?_
  refine pe_aloadX_n (j := 0) (by decide +kernel) rfl ?_
  refine pe_iload_n (j := 3) (by decide +kernel) rfl ?_
  refine pe_iconstv (n := 1) (v := 1) (by decide +kernel) (by decide +kernel) ?_
  refine pz_add (by decide +kernel) rfl kz_1 (by omega) (by omega) (fun z1 hz1 => ?_)
  refine pz_ialdX (n := xs.length) (by decide +kernel) (show pg_X xs 0 = some (0, xs, 0) from rfl) rfl hz1 (by omega) (by omega) (fun v2 ev2 => ?_)
  clear hz1
  refine pe_aloadX_n (j := 0) (by decide +kernel) rfl ?_
  refine pe_iload_n (j := 3) (by decide +kernel) rfl ?_
  refine pe_iconstv (n := 2) (v := 2) (by decide +kernel) (by decide +kernel) ?_
  refine pz_add (by decide +kernel) rfl kz_2 (by omega) (by omega) (fun z3 hz3 => ?_)
  refine pz_ialdX (n := xs.length) (by decide +kernel) (show pg_X xs 0 = some (0, xs, 0) from rfl) rfl hz3 (by omega) (by omega) (fun v4 ev4 => ?_)
  clear hz3
  refine pe_aloadX_n (j := 0) (by decide +kernel) rfl ?_
  refine pe_iload_n (j := 3) (by decide +kernel) rfl ?_
  refine pe_iconstv (n := 3) (v := 3) (by decide +kernel) (by decide +kernel) ?_
  refine pz_add (by decide +kernel) rfl kz_3 (by omega) (by omega) (fun z5 hz5 => ?_)
  refine pz_ialdX (n := xs.length) (by decide +kernel) (show pg_X xs 0 = some (0, xs, 0) from rfl) rfl hz5 (by omega) (by omega) (fun v6 ev6 => ?_)
  clear hz5
  refine pe_aloadX_n (j := 0) (by decide +kernel) rfl ?_
  refine pe_iload_n (j := 3) (by decide +kernel) rfl ?_
  refine pe_iconstv (n := 4) (v := 4) (by decide +kernel) (by decide +kernel) ?_
  refine pz_add (by decide +kernel) rfl kz_4 (by omega) (by omega) (fun z7 hz7 => ?_)
  refine pz_ialdX (n := xs.length) (by decide +kernel) (show pg_X xs 0 = some (0, xs, 0) from rfl) rfl hz7 (by omega) (by omega) (fun v8 ev8 => ?_)
  clear hz7
  refine pz_callV (j := 93) (mj := 140) (by decide +kernel) (cll_V (args := [.int v8, .int v6, .int v4, .int v2]) (n := 4) (by decide +kernel) rfl rfl cd_o0 (by decide +kernel) (Nat.le_of_ble_eq_true rfl) (Nat.le_of_ble_eq_true rfl)) (CM_140 st_XO hC) (fun q9a q9b q9c q9d hqq9 => ?_)
  obtain ⟨f10, A11, R12, rq9, eq9, hIq9, hGq9, hFq9, hHq9, kq9⟩ := hqq9
  cases eq9
  refine ⟨rfl, rfl, ?_⟩
  show pmE pg (pg_X xs) pg_tyl pg_cl 41 318 1115 [.retAddr 0, .ref 0, .ref 147, .int x3] [.int rq9] (cd f10 A11 R12 (em g B)) _
  refine pe_pop (by decide +kernel) rfl ?_
  refine pe_aload_n (j := 2) (by decide +kernel) rfl ?_
  refine pe_aloadX_n (j := 0) (by decide +kernel) rfl ?_
  refine pe_iload_n (j := 3) (by decide +kernel) rfl ?_
  refine pe_iconstv (n := 1) (v := 1) (by decide +kernel) (by decide +kernel) ?_
  refine pz_add (by decide +kernel) rfl kz_1 (by omega) (by omega) (fun z13 hz13 => ?_)
  refine pz_ialdX (n := xs.length) (by decide +kernel) (show pg_X xs 0 = some (0, xs, 0) from rfl) rfl hz13 (by omega) (by omega) (fun v14 ev14 => ?_)
  clear hz13
  refine pe_aloadX_n (j := 0) (by decide +kernel) rfl ?_
  refine pe_iload_n (j := 3) (by decide +kernel) rfl ?_
  refine pe_iconstv (n := 2) (v := 2) (by decide +kernel) (by decide +kernel) ?_
  refine pz_add (by decide +kernel) rfl kz_2 (by omega) (by omega) (fun z15 hz15 => ?_)
  refine pz_ialdX (n := xs.length) (by decide +kernel) (show pg_X xs 0 = some (0, xs, 0) from rfl) rfl hz15 (by omega) (by omega) (fun v16 ev16 => ?_)
  clear hz15
  refine pe_aloadX_n (j := 0) (by decide +kernel) rfl ?_
  refine pe_iload_n (j := 3) (by decide +kernel) rfl ?_
  refine pe_iconstv (n := 3) (v := 3) (by decide +kernel) (by decide +kernel) ?_
  refine pz_add (by decide +kernel) rfl kz_3 (by omega) (by omega) (fun z17 hz17 => ?_)
  refine pz_ialdX (n := xs.length) (by decide +kernel) (show pg_X xs 0 = some (0, xs, 0) from rfl) rfl hz17 (by omega) (by omega) (fun v18 ev18 => ?_)
  clear hz17
  refine pe_aloadX_n (j := 0) (by decide +kernel) rfl ?_
  refine pe_iload_n (j := 3) (by decide +kernel) rfl ?_
  refine pe_iconstv (n := 4) (v := 4) (by decide +kernel) (by decide +kernel) ?_
  refine pz_add (by decide +kernel) rfl kz_4 (by omega) (by omega) (fun z19 hz19 => ?_)
  refine pz_ialdX (n := xs.length) (by decide +kernel) (show pg_X xs 0 = some (0, xs, 0) from rfl) rfl hz19 (by omega) (by omega) (fun v20 ev20 => ?_)
  clear hz19
  show pmE pg (pg_X xs) pg_tyl pg_cl 41 318 1137 [.retAddr 0, .ref 0, .ref 147, .int x3] [.int v20, .int v18, .int v16, .int v14, .ref 147] (md (cc f10 A11 R12) g B) _
  refine pz_callV (j := 96) (mj := 274) (by decide +kernel) (cll_V (args := [.int v20, .int v18, .int v16, .int v14]) (n := 4) (by decide +kernel) rfl rfl (md_o cc_len) (by decide +kernel) (Nat.le_of_ble_eq_true rfl) (Nat.le_of_ble_eq_true rfl)) (MM_274 cc_len hM) (fun q21a q21b q21c q21d hqq21 => ?_)
  obtain ⟨g22, B23, rq21, eq21, hIq21, hGq21, hFq21, kq21⟩ := hqq21
  cases eq21
  refine ⟨rfl, rfl, ?_⟩
  show pmE pg (pg_X xs) pg_tyl pg_cl 41 318 1140 [.retAddr 0, .ref 0, .ref 147, .int x3] [.int rq21] (cd f10 A11 R12 (em g22 B23)) _
  refine pe_pop (by decide +kernel) rfl ?_
  refine pe_goto (off := 1336) (t := 2477) (by decide +kernel) (by decide) rfl ?_
  exact kk _ _ _ _ _ ⟨hIq9, hIq21, (RL5_t (hGq21 31 (by decide) (by decide) (by decide)) (hGq21 32 (by decide) (by decide) (by decide)) (RL4_fr hIq9 hIq21 (fun n hn => hGq9 n (tn hn (by decide)) (tn hn (by decide))) (fun n hn => hFq9 n (tn hn (by decide)) (tn hn (by decide)) (tn hn (by decide))) (hFq21 148 (by decide) (by decide)) (hFq21 149 (by decide) (by decide)) hR.1) hR)⟩
set_option maxRecDepth 100000 in
set_option maxHeartbeats 8000000 in
theorem LC_19 {xs : List Int32} {Q : pm_R → Prop} {f : Nat → Int32} {A : Nat → List Int32} {R : Nat → Value} {g : Nat → Int32} {B : Nat → List Int32} {x3 : Int32} (h3 : 0 ≤ x3.toInt) (h4 : x3.toInt + 7 ≤ xs.length) (hl : xs.length ≤ 3584) (hS : ST f A R g B) (kk : ∀ (f' : Nat → Int32) (A' : Nat → List Int32) (R' : Nat → Value) (g' : Nat → Int32) (B' : Nat → List Int32), ST f' A' R' g' B' → pmE pg (pg_X xs) pg_tyl pg_cl 41 318 2477 [.retAddr 0, .ref 0, .ref 147, .int x3] [] (cd f' A' R' (em g' B')) Q) : pmE pg (pg_X xs) pg_tyl pg_cl 41 318 1144 [.retAddr 0, .ref 0, .ref 147, .int x3] [] (cd f A R (em g B)) Q := by
  obtain ⟨hC, hM, hR⟩ := hS
  refine pe_aload_n (j := 1) (by decide +kernel) rfl ?_
  refine pe_aloadX_n (j := 0) (by decide +kernel) rfl ?_
  refine pe_iload_n (j := 3) (by decide +kernel) rfl ?_
  refine pe_iconstv (n := 1) (v := 1) (by decide +kernel) (by decide +kernel) ?_
  refine pz_add (by decide +kernel) rfl kz_1 (by omega) (by omega) (fun z1 hz1 => ?_)
  refine pz_ialdX (n := xs.length) (by decide +kernel) (show pg_X xs 0 = some (0, xs, 0) from rfl) rfl hz1 (by omega) (by omega) (fun v2 ev2 => ?_)
  clear hz1
  refine pe_aloadX_n (j := 0) (by decide +kernel) rfl ?_
  refine pe_iload_n (j := 3) (by decide +kernel) rfl ?_
  refine pe_iconstv (n := 2) (v := 2) (by decide +kernel) (by decide +kernel) ?_
  refine pz_add (by decide +kernel) rfl kz_2 (by omega) (by omega) (fun z3 hz3 => ?_)
  refine pz_ialdX (n := xs.length) (by decide +kernel) (show pg_X xs 0 = some (0, xs, 0) from rfl) rfl hz3 (by omega) (by omega) (fun v4 ev4 => ?_)
  clear hz3
  refine pe_aloadX_n (j := 0) (by decide +kernel) rfl ?_
  refine pe_iload_n (j := 3) (by decide +kernel) rfl ?_
  refine pe_iconstv (n := 3) (v := 3) (by decide +kernel) (by decide +kernel) ?_
  refine pz_add (by decide +kernel) rfl kz_3 (by omega) (by omega) (fun z5 hz5 => ?_)
  refine pz_ialdX (n := xs.length) (by decide +kernel) (show pg_X xs 0 = some (0, xs, 0) from rfl) rfl hz5 (by omega) (by omega) (fun v6 ev6 => ?_)
  clear hz5
  refine pe_aloadX_n (j := 0) (by decide +kernel) rfl ?_
  refine pe_iload_n (j := 3) (by decide +kernel) rfl ?_
  refine pe_iconstv (n := 4) (v := 4) (by decide +kernel) (by decide +kernel) ?_
  refine pz_add (by decide +kernel) rfl kz_4 (by omega) (by omega) (fun z7 hz7 => ?_)
  refine pz_ialdX (n := xs.length) (by decide +kernel) (show pg_X xs 0 = some (0, xs, 0) from rfl) rfl hz7 (by omega) (by omega) (fun v8 ev8 => ?_)
  clear hz7
  refine pz_callV (j := 97) (mj := 158) (by decide +kernel) (cll_V (args := [.int v8, .int v6, .int v4, .int v2]) (n := 4) (by decide +kernel) rfl rfl cd_o0 (by decide +kernel) (Nat.le_of_ble_eq_true rfl) (Nat.le_of_ble_eq_true rfl)) (CM_158 st_XO hC) (fun q9a q9b q9c q9d hqq9 => ?_)
  obtain ⟨f10, A11, R12, rq9, eq9, hIq9, hGq9, hFq9, hHq9, kq9⟩ := hqq9
  cases eq9
  refine ⟨rfl, rfl, ?_⟩
  show pmE pg (pg_X xs) pg_tyl pg_cl 41 318 1168 [.retAddr 0, .ref 0, .ref 147, .int x3] [.int rq9] (cd f10 A11 R12 (em g B)) _
  refine pe_pop (by decide +kernel) rfl ?_
  refine pe_aload_n (j := 2) (by decide +kernel) rfl ?_
  refine pe_aloadX_n (j := 0) (by decide +kernel) rfl ?_
  refine pe_iload_n (j := 3) (by decide +kernel) rfl ?_
  refine pe_iconstv (n := 1) (v := 1) (by decide +kernel) (by decide +kernel) ?_
  refine pz_add (by decide +kernel) rfl kz_1 (by omega) (by omega) (fun z13 hz13 => ?_)
  refine pz_ialdX (n := xs.length) (by decide +kernel) (show pg_X xs 0 = some (0, xs, 0) from rfl) rfl hz13 (by omega) (by omega) (fun v14 ev14 => ?_)
  clear hz13
  refine pe_aloadX_n (j := 0) (by decide +kernel) rfl ?_
  refine pe_iload_n (j := 3) (by decide +kernel) rfl ?_
  refine pe_iconstv (n := 2) (v := 2) (by decide +kernel) (by decide +kernel) ?_
  refine pz_add (by decide +kernel) rfl kz_2 (by omega) (by omega) (fun z15 hz15 => ?_)
  refine pz_ialdX (n := xs.length) (by decide +kernel) (show pg_X xs 0 = some (0, xs, 0) from rfl) rfl hz15 (by omega) (by omega) (fun v16 ev16 => ?_)
  clear hz15
  refine pe_aloadX_n (j := 0) (by decide +kernel) rfl ?_
  refine pe_iload_n (j := 3) (by decide +kernel) rfl ?_
  refine pe_iconstv (n := 3) (v := 3) (by decide +kernel) (by decide +kernel) ?_
  refine pz_add (by decide +kernel) rfl kz_3 (by omega) (by omega) (fun z17 hz17 => ?_)
  refine pz_ialdX (n := xs.length) (by decide +kernel) (show pg_X xs 0 = some (0, xs, 0) from rfl) rfl hz17 (by omega) (by omega) (fun v18 ev18 => ?_)
  clear hz17
  refine pe_aloadX_n (j := 0) (by decide +kernel) rfl ?_
  refine pe_iload_n (j := 3) (by decide +kernel) rfl ?_
  refine pe_iconstv (n := 4) (v := 4) (by decide +kernel) (by decide +kernel) ?_
  refine pz_add (by decide +kernel) rfl kz_4 (by omega) (by omega) (fun z19 hz19 => ?_)
  refine pz_ialdX (n := xs.length) (by decide +kernel) (show pg_X xs 0 = some (0, xs, 0) from rfl) rfl hz19 (by omega) (by omega) (fun v20 ev20 => ?_)
  clear hz19
  show pmE pg (pg_X xs) pg_tyl pg_cl 41 318 1190 [.retAddr 0, .ref 0, .ref 147, .int x3] [.int v20, .int v18, .int v16, .int v14, .ref 147] (md (cc f10 A11 R12) g B) _
  refine pz_callV (j := 100) (mj := 276) (by decide +kernel) (cll_V (args := [.int v20, .int v18, .int v16, .int v14]) (n := 4) (by decide +kernel) rfl rfl (md_o cc_len) (by decide +kernel) (Nat.le_of_ble_eq_true rfl) (Nat.le_of_ble_eq_true rfl)) (NM_276 cc_len hM) (fun q21a q21b q21c q21d hqq21 => ?_)
  obtain ⟨g22, B23, rq21, eq21, hIq21, hGq21, hFq21, kq21⟩ := hqq21
  cases eq21
  refine ⟨rfl, rfl, ?_⟩
  show pmE pg (pg_X xs) pg_tyl pg_cl 41 318 1193 [.retAddr 0, .ref 0, .ref 147, .int x3] [.int rq21] (cd f10 A11 R12 (em g22 B23)) _
  refine pe_pop (by decide +kernel) rfl ?_
  refine pe_goto (off := 1283) (t := 2477) (by decide +kernel) (by decide) rfl ?_
  exact kk _ _ _ _ _ ⟨hIq9, hIq21, (RL5_t (hGq21 31 (by decide) (by decide) (by decide)) (hGq21 32 (by decide) (by decide) (by decide)) (RL4_fr hIq9 hIq21 (fun n hn => hGq9 n (tn hn (by decide)) (tn hn (by decide)) (tn hn (by decide))) (fun n hn => hFq9 n (tn hn (by decide)) (tn hn (by decide)) (tn hn (by decide)) (tn hn (by decide)) (tn hn (by decide)) (tn hn (by decide)) (tn hn (by decide)) (tn hn (by decide))) (hFq21 148 (by decide) (by decide) (by decide) (by decide) (by decide) (by decide) (by decide)) (hFq21 149 (by decide) (by decide) (by decide) (by decide) (by decide) (by decide) (by decide)) hR.1) hR)⟩
set_option maxRecDepth 100000 in
set_option maxHeartbeats 8000000 in
theorem LC_20 {xs : List Int32} {Q : pm_R → Prop} {f : Nat → Int32} {A : Nat → List Int32} {R : Nat → Value} {g : Nat → Int32} {B : Nat → List Int32} {x3 : Int32} (h3 : 0 ≤ x3.toInt) (h4 : x3.toInt + 7 ≤ xs.length) (hl : xs.length ≤ 3584) (hS : ST f A R g B) (kk : ∀ (f' : Nat → Int32) (A' : Nat → List Int32) (R' : Nat → Value) (g' : Nat → Int32) (B' : Nat → List Int32), ST f' A' R' g' B' → pmE pg (pg_X xs) pg_tyl pg_cl 41 318 2477 [.retAddr 0, .ref 0, .ref 147, .int x3] [] (cd f' A' R' (em g' B')) Q) : pmE pg (pg_X xs) pg_tyl pg_cl 41 318 1197 [.retAddr 0, .ref 0, .ref 147, .int x3] [] (cd f A R (em g B)) Q := by
  obtain ⟨hC, hM, hR⟩ := hS
  refine pe_aload_n (j := 1) (by decide +kernel) rfl ?_
  refine pe_aloadX_n (j := 0) (by decide +kernel) rfl ?_
  refine pe_iload_n (j := 3) (by decide +kernel) rfl ?_
  refine pe_iconstv (n := 1) (v := 1) (by decide +kernel) (by decide +kernel) ?_
  refine pz_add (by decide +kernel) rfl kz_1 (by omega) (by omega) (fun z1 hz1 => ?_)
  refine pz_ialdX (n := xs.length) (by decide +kernel) (show pg_X xs 0 = some (0, xs, 0) from rfl) rfl hz1 (by omega) (by omega) (fun v2 ev2 => ?_)
  clear hz1
  refine pe_aloadX_n (j := 0) (by decide +kernel) rfl ?_
  refine pe_iload_n (j := 3) (by decide +kernel) rfl ?_
  refine pe_iconstv (n := 2) (v := 2) (by decide +kernel) (by decide +kernel) ?_
  refine pz_add (by decide +kernel) rfl kz_2 (by omega) (by omega) (fun z3 hz3 => ?_)
  refine pz_ialdX (n := xs.length) (by decide +kernel) (show pg_X xs 0 = some (0, xs, 0) from rfl) rfl hz3 (by omega) (by omega) (fun v4 ev4 => ?_)
  clear hz3
  refine pe_aloadX_n (j := 0) (by decide +kernel) rfl ?_
  refine pe_iload_n (j := 3) (by decide +kernel) rfl ?_
  refine pe_iconstv (n := 3) (v := 3) (by decide +kernel) (by decide +kernel) ?_
  refine pz_add (by decide +kernel) rfl kz_3 (by omega) (by omega) (fun z5 hz5 => ?_)
  refine pz_ialdX (n := xs.length) (by decide +kernel) (show pg_X xs 0 = some (0, xs, 0) from rfl) rfl hz5 (by omega) (by omega) (fun v6 ev6 => ?_)
  clear hz5
  refine pe_aloadX_n (j := 0) (by decide +kernel) rfl ?_
  refine pe_iload_n (j := 3) (by decide +kernel) rfl ?_
  refine pe_iconstv (n := 4) (v := 4) (by decide +kernel) (by decide +kernel) ?_
  refine pz_add (by decide +kernel) rfl kz_4 (by omega) (by omega) (fun z7 hz7 => ?_)
  refine pz_ialdX (n := xs.length) (by decide +kernel) (show pg_X xs 0 = some (0, xs, 0) from rfl) rfl hz7 (by omega) (by omega) (fun v8 ev8 => ?_)
  clear hz7
  refine pe_aloadX_n (j := 0) (by decide +kernel) rfl ?_
  refine pe_iload_n (j := 3) (by decide +kernel) rfl ?_
  refine pe_iconstv (n := 5) (v := 5) (by decide +kernel) (by decide +kernel) ?_
  refine pz_add (by decide +kernel) rfl kz_5 (by omega) (by omega) (fun z9 hz9 => ?_)
  refine pz_ialdX (n := xs.length) (by decide +kernel) (show pg_X xs 0 = some (0, xs, 0) from rfl) rfl hz9 (by omega) (by omega) (fun v10 ev10 => ?_)
  clear hz9
  refine pz_if_eq (off := 7) (t := 1230) (by decide +kernel) (by decide) rfl rfl (fun h11 => ?_) (fun h11 => ?_)
  · skip
    refine pe_iconstv (n := 0) (v := 0) (by decide +kernel) (by decide +kernel) ?_
    refine pz_callV (j := 101) (mj := 167) (by decide +kernel) (cll_V (args := [.int 0, .int v8, .int v6, .int v4, .int v2]) (n := 5) (by decide +kernel) rfl rfl cd_o0 (by decide +kernel) (Nat.le_of_ble_eq_true rfl) (Nat.le_of_ble_eq_true rfl)) (CM_167 st_XO hC) (fun q12a q12b q12c q12d hqq12 => ?_)
    obtain ⟨f13, A14, R15, rq12, eq12, hIq12, hGq12, hFq12, hHq12, kq12⟩ := hqq12
    cases eq12
    refine ⟨rfl, rfl, ?_⟩
    show pmE pg (pg_X xs) pg_tyl pg_cl 41 318 1234 [.retAddr 0, .ref 0, .ref 147, .int x3] [.int rq12] (cd f13 A14 R15 (em g B)) _
    refine pe_pop (by decide +kernel) rfl ?_
    refine pe_aload_n (j := 2) (by decide +kernel) rfl ?_
    refine pe_aloadX_n (j := 0) (by decide +kernel) rfl ?_
    refine pe_iload_n (j := 3) (by decide +kernel) rfl ?_
    refine pe_iconstv (n := 1) (v := 1) (by decide +kernel) (by decide +kernel) ?_
    refine pz_add (by decide +kernel) rfl kz_1 (by omega) (by omega) (fun z16 hz16 => ?_)
    refine pz_ialdX (n := xs.length) (by decide +kernel) (show pg_X xs 0 = some (0, xs, 0) from rfl) rfl hz16 (by omega) (by omega) (fun v17 ev17 => ?_)
    clear hz16
    refine pe_aloadX_n (j := 0) (by decide +kernel) rfl ?_
    refine pe_iload_n (j := 3) (by decide +kernel) rfl ?_
    refine pe_iconstv (n := 2) (v := 2) (by decide +kernel) (by decide +kernel) ?_
    refine pz_add (by decide +kernel) rfl kz_2 (by omega) (by omega) (fun z18 hz18 => ?_)
    refine pz_ialdX (n := xs.length) (by decide +kernel) (show pg_X xs 0 = some (0, xs, 0) from rfl) rfl hz18 (by omega) (by omega) (fun v19 ev19 => ?_)
    clear hz18
    refine pe_aloadX_n (j := 0) (by decide +kernel) rfl ?_
    refine pe_iload_n (j := 3) (by decide +kernel) rfl ?_
    refine pe_iconstv (n := 3) (v := 3) (by decide +kernel) (by decide +kernel) ?_
    refine pz_add (by decide +kernel) rfl kz_3 (by omega) (by omega) (fun z20 hz20 => ?_)
    refine pz_ialdX (n := xs.length) (by decide +kernel) (show pg_X xs 0 = some (0, xs, 0) from rfl) rfl hz20 (by omega) (by omega) (fun v21 ev21 => ?_)
    clear hz20
    refine pe_aloadX_n (j := 0) (by decide +kernel) rfl ?_
    refine pe_iload_n (j := 3) (by decide +kernel) rfl ?_
    refine pe_iconstv (n := 4) (v := 4) (by decide +kernel) (by decide +kernel) ?_
    refine pz_add (by decide +kernel) rfl kz_4 (by omega) (by omega) (fun z22 hz22 => ?_)
    refine pz_ialdX (n := xs.length) (by decide +kernel) (show pg_X xs 0 = some (0, xs, 0) from rfl) rfl hz22 (by omega) (by omega) (fun v23 ev23 => ?_)
    clear hz22
    refine pe_aloadX_n (j := 0) (by decide +kernel) rfl ?_
    refine pe_iload_n (j := 3) (by decide +kernel) rfl ?_
    refine pe_iconstv (n := 5) (v := 5) (by decide +kernel) (by decide +kernel) ?_
    refine pz_add (by decide +kernel) rfl kz_5 (by omega) (by omega) (fun z24 hz24 => ?_)
    refine pz_ialdX (n := xs.length) (by decide +kernel) (show pg_X xs 0 = some (0, xs, 0) from rfl) rfl hz24 (by omega) (by omega) (fun v25 ev25 => ?_)
    clear hz24
    refine pz_if_eq (off := 7) (t := 1268) (by decide +kernel) (by decide) rfl rfl (fun h26 => ?_) (fun h26 => ?_)
    · skip
      refine pe_iconstv (n := 0) (v := 0) (by decide +kernel) (by decide +kernel) ?_
      show pmE pg (pg_X xs) pg_tyl pg_cl 41 318 1269 [.retAddr 0, .ref 0, .ref 147, .int x3] [.int 0, .int v23, .int v21, .int v19, .int v17, .ref 147] (md (cc f13 A14 R15) g B) _
      refine pz_callV (j := 105) (mj := 282) (by decide +kernel) (cll_V (args := [.int 0, .int v23, .int v21, .int v19, .int v17]) (n := 5) (by decide +kernel) rfl rfl (md_o cc_len) (by decide +kernel) (Nat.le_of_ble_eq_true rfl) (Nat.le_of_ble_eq_true rfl)) (NM_282 cc_len hM) (fun q27a q27b q27c q27d hqq27 => ?_)
      obtain ⟨g28, B29, rq27, eq27, hIq27, hGq27, hFq27, kq27⟩ := hqq27
      cases eq27
      refine ⟨rfl, rfl, ?_⟩
      show pmE pg (pg_X xs) pg_tyl pg_cl 41 318 1272 [.retAddr 0, .ref 0, .ref 147, .int x3] [.int rq27] (cd f13 A14 R15 (em g28 B29)) _
      refine pe_pop (by decide +kernel) rfl ?_
      refine pe_goto (off := 1204) (t := 2477) (by decide +kernel) (by decide) rfl ?_
      exact kk _ _ _ _ _ ⟨hIq12, hIq27, (RL5_t (hGq27 31 (by decide) (by decide) (by decide)) (hGq27 32 (by decide) (by decide) (by decide)) (RL4_fr hIq12 hIq27 (fun n hn => hGq12 n (tn hn (by decide)) (tn hn (by decide)) (tn hn (by decide))) (fun n hn => hFq12 n (tn hn (by decide)) (tn hn (by decide)) (tn hn (by decide)) (tn hn (by decide)) (tn hn (by decide)) (tn hn (by decide)) (tn hn (by decide)) (tn hn (by decide)) (tn hn (by decide)) (tn hn (by decide))) (hFq27 148 (by decide) (by decide) (by decide) (by decide) (by decide) (by decide) (by decide)) (hFq27 149 (by decide) (by decide) (by decide) (by decide) (by decide) (by decide) (by decide)) hR.1) hR)⟩
    · skip
      refine pe_iconstv (n := 1) (v := 1) (by decide +kernel) (by decide +kernel) ?_
      refine pe_goto (off := 4) (t := 1269) (by decide +kernel) (by decide) rfl ?_
      show pmE pg (pg_X xs) pg_tyl pg_cl 41 318 1269 [.retAddr 0, .ref 0, .ref 147, .int x3] [.int 1, .int v23, .int v21, .int v19, .int v17, .ref 147] (md (cc f13 A14 R15) g B) _
      refine pz_callV (j := 105) (mj := 282) (by decide +kernel) (cll_V (args := [.int 1, .int v23, .int v21, .int v19, .int v17]) (n := 5) (by decide +kernel) rfl rfl (md_o cc_len) (by decide +kernel) (Nat.le_of_ble_eq_true rfl) (Nat.le_of_ble_eq_true rfl)) (NM_282 cc_len hM) (fun q30a q30b q30c q30d hqq30 => ?_)
      obtain ⟨g31, B32, rq30, eq30, hIq30, hGq30, hFq30, kq30⟩ := hqq30
      cases eq30
      refine ⟨rfl, rfl, ?_⟩
      show pmE pg (pg_X xs) pg_tyl pg_cl 41 318 1272 [.retAddr 0, .ref 0, .ref 147, .int x3] [.int rq30] (cd f13 A14 R15 (em g31 B32)) _
      refine pe_pop (by decide +kernel) rfl ?_
      refine pe_goto (off := 1204) (t := 2477) (by decide +kernel) (by decide) rfl ?_
      exact kk _ _ _ _ _ ⟨hIq12, hIq30, (RL5_t (hGq30 31 (by decide) (by decide) (by decide)) (hGq30 32 (by decide) (by decide) (by decide)) (RL4_fr hIq12 hIq30 (fun n hn => hGq12 n (tn hn (by decide)) (tn hn (by decide)) (tn hn (by decide))) (fun n hn => hFq12 n (tn hn (by decide)) (tn hn (by decide)) (tn hn (by decide)) (tn hn (by decide)) (tn hn (by decide)) (tn hn (by decide)) (tn hn (by decide)) (tn hn (by decide)) (tn hn (by decide)) (tn hn (by decide))) (hFq30 148 (by decide) (by decide) (by decide) (by decide) (by decide) (by decide) (by decide)) (hFq30 149 (by decide) (by decide) (by decide) (by decide) (by decide) (by decide) (by decide)) hR.1) hR)⟩
  · skip
    refine pe_iconstv (n := 1) (v := 1) (by decide +kernel) (by decide +kernel) ?_
    refine pe_goto (off := 4) (t := 1231) (by decide +kernel) (by decide) rfl ?_
    refine pz_callV (j := 101) (mj := 167) (by decide +kernel) (cll_V (args := [.int 1, .int v8, .int v6, .int v4, .int v2]) (n := 5) (by decide +kernel) rfl rfl cd_o0 (by decide +kernel) (Nat.le_of_ble_eq_true rfl) (Nat.le_of_ble_eq_true rfl)) (CM_167 st_XO hC) (fun q33a q33b q33c q33d hqq33 => ?_)
    obtain ⟨f34, A35, R36, rq33, eq33, hIq33, hGq33, hFq33, hHq33, kq33⟩ := hqq33
    cases eq33
    refine ⟨rfl, rfl, ?_⟩
    show pmE pg (pg_X xs) pg_tyl pg_cl 41 318 1234 [.retAddr 0, .ref 0, .ref 147, .int x3] [.int rq33] (cd f34 A35 R36 (em g B)) _
    refine pe_pop (by decide +kernel) rfl ?_
    refine pe_aload_n (j := 2) (by decide +kernel) rfl ?_
    refine pe_aloadX_n (j := 0) (by decide +kernel) rfl ?_
    refine pe_iload_n (j := 3) (by decide +kernel) rfl ?_
    refine pe_iconstv (n := 1) (v := 1) (by decide +kernel) (by decide +kernel) ?_
    refine pz_add (by decide +kernel) rfl kz_1 (by omega) (by omega) (fun z37 hz37 => ?_)
    refine pz_ialdX (n := xs.length) (by decide +kernel) (show pg_X xs 0 = some (0, xs, 0) from rfl) rfl hz37 (by omega) (by omega) (fun v38 ev38 => ?_)
    clear hz37
    refine pe_aloadX_n (j := 0) (by decide +kernel) rfl ?_
    refine pe_iload_n (j := 3) (by decide +kernel) rfl ?_
    refine pe_iconstv (n := 2) (v := 2) (by decide +kernel) (by decide +kernel) ?_
    refine pz_add (by decide +kernel) rfl kz_2 (by omega) (by omega) (fun z39 hz39 => ?_)
    refine pz_ialdX (n := xs.length) (by decide +kernel) (show pg_X xs 0 = some (0, xs, 0) from rfl) rfl hz39 (by omega) (by omega) (fun v40 ev40 => ?_)
    clear hz39
    refine pe_aloadX_n (j := 0) (by decide +kernel) rfl ?_
    refine pe_iload_n (j := 3) (by decide +kernel) rfl ?_
    refine pe_iconstv (n := 3) (v := 3) (by decide +kernel) (by decide +kernel) ?_
    refine pz_add (by decide +kernel) rfl kz_3 (by omega) (by omega) (fun z41 hz41 => ?_)
    refine pz_ialdX (n := xs.length) (by decide +kernel) (show pg_X xs 0 = some (0, xs, 0) from rfl) rfl hz41 (by omega) (by omega) (fun v42 ev42 => ?_)
    clear hz41
    refine pe_aloadX_n (j := 0) (by decide +kernel) rfl ?_
    refine pe_iload_n (j := 3) (by decide +kernel) rfl ?_
    refine pe_iconstv (n := 4) (v := 4) (by decide +kernel) (by decide +kernel) ?_
    refine pz_add (by decide +kernel) rfl kz_4 (by omega) (by omega) (fun z43 hz43 => ?_)
    refine pz_ialdX (n := xs.length) (by decide +kernel) (show pg_X xs 0 = some (0, xs, 0) from rfl) rfl hz43 (by omega) (by omega) (fun v44 ev44 => ?_)
    clear hz43
    refine pe_aloadX_n (j := 0) (by decide +kernel) rfl ?_
    refine pe_iload_n (j := 3) (by decide +kernel) rfl ?_
    refine pe_iconstv (n := 5) (v := 5) (by decide +kernel) (by decide +kernel) ?_
    refine pz_add (by decide +kernel) rfl kz_5 (by omega) (by omega) (fun z45 hz45 => ?_)
    refine pz_ialdX (n := xs.length) (by decide +kernel) (show pg_X xs 0 = some (0, xs, 0) from rfl) rfl hz45 (by omega) (by omega) (fun v46 ev46 => ?_)
    clear hz45
    refine pz_if_eq (off := 7) (t := 1268) (by decide +kernel) (by decide) rfl rfl (fun h47 => ?_) (fun h47 => ?_)
    · skip
      refine pe_iconstv (n := 0) (v := 0) (by decide +kernel) (by decide +kernel) ?_
      show pmE pg (pg_X xs) pg_tyl pg_cl 41 318 1269 [.retAddr 0, .ref 0, .ref 147, .int x3] [.int 0, .int v44, .int v42, .int v40, .int v38, .ref 147] (md (cc f34 A35 R36) g B) _
      refine pz_callV (j := 105) (mj := 282) (by decide +kernel) (cll_V (args := [.int 0, .int v44, .int v42, .int v40, .int v38]) (n := 5) (by decide +kernel) rfl rfl (md_o cc_len) (by decide +kernel) (Nat.le_of_ble_eq_true rfl) (Nat.le_of_ble_eq_true rfl)) (NM_282 cc_len hM) (fun q48a q48b q48c q48d hqq48 => ?_)
      obtain ⟨g49, B50, rq48, eq48, hIq48, hGq48, hFq48, kq48⟩ := hqq48
      cases eq48
      refine ⟨rfl, rfl, ?_⟩
      show pmE pg (pg_X xs) pg_tyl pg_cl 41 318 1272 [.retAddr 0, .ref 0, .ref 147, .int x3] [.int rq48] (cd f34 A35 R36 (em g49 B50)) _
      refine pe_pop (by decide +kernel) rfl ?_
      refine pe_goto (off := 1204) (t := 2477) (by decide +kernel) (by decide) rfl ?_
      exact kk _ _ _ _ _ ⟨hIq33, hIq48, (RL5_t (hGq48 31 (by decide) (by decide) (by decide)) (hGq48 32 (by decide) (by decide) (by decide)) (RL4_fr hIq33 hIq48 (fun n hn => hGq33 n (tn hn (by decide)) (tn hn (by decide)) (tn hn (by decide))) (fun n hn => hFq33 n (tn hn (by decide)) (tn hn (by decide)) (tn hn (by decide)) (tn hn (by decide)) (tn hn (by decide)) (tn hn (by decide)) (tn hn (by decide)) (tn hn (by decide)) (tn hn (by decide)) (tn hn (by decide))) (hFq48 148 (by decide) (by decide) (by decide) (by decide) (by decide) (by decide) (by decide)) (hFq48 149 (by decide) (by decide) (by decide) (by decide) (by decide) (by decide) (by decide)) hR.1) hR)⟩
    · skip
      refine pe_iconstv (n := 1) (v := 1) (by decide +kernel) (by decide +kernel) ?_
      refine pe_goto (off := 4) (t := 1269) (by decide +kernel) (by decide) rfl ?_
      show pmE pg (pg_X xs) pg_tyl pg_cl 41 318 1269 [.retAddr 0, .ref 0, .ref 147, .int x3] [.int 1, .int v44, .int v42, .int v40, .int v38, .ref 147] (md (cc f34 A35 R36) g B) _
      refine pz_callV (j := 105) (mj := 282) (by decide +kernel) (cll_V (args := [.int 1, .int v44, .int v42, .int v40, .int v38]) (n := 5) (by decide +kernel) rfl rfl (md_o cc_len) (by decide +kernel) (Nat.le_of_ble_eq_true rfl) (Nat.le_of_ble_eq_true rfl)) (NM_282 cc_len hM) (fun q51a q51b q51c q51d hqq51 => ?_)
      obtain ⟨g52, B53, rq51, eq51, hIq51, hGq51, hFq51, kq51⟩ := hqq51
      cases eq51
      refine ⟨rfl, rfl, ?_⟩
      show pmE pg (pg_X xs) pg_tyl pg_cl 41 318 1272 [.retAddr 0, .ref 0, .ref 147, .int x3] [.int rq51] (cd f34 A35 R36 (em g52 B53)) _
      refine pe_pop (by decide +kernel) rfl ?_
      refine pe_goto (off := 1204) (t := 2477) (by decide +kernel) (by decide) rfl ?_
      exact kk _ _ _ _ _ ⟨hIq33, hIq51, (RL5_t (hGq51 31 (by decide) (by decide) (by decide)) (hGq51 32 (by decide) (by decide) (by decide)) (RL4_fr hIq33 hIq51 (fun n hn => hGq33 n (tn hn (by decide)) (tn hn (by decide)) (tn hn (by decide))) (fun n hn => hFq33 n (tn hn (by decide)) (tn hn (by decide)) (tn hn (by decide)) (tn hn (by decide)) (tn hn (by decide)) (tn hn (by decide)) (tn hn (by decide)) (tn hn (by decide)) (tn hn (by decide)) (tn hn (by decide))) (hFq51 148 (by decide) (by decide) (by decide) (by decide) (by decide) (by decide) (by decide)) (hFq51 149 (by decide) (by decide) (by decide) (by decide) (by decide) (by decide) (by decide)) hR.1) hR)⟩
end
