set_option maxRecDepth 100000 in
set_option maxHeartbeats 8000000 in
theorem LC_0 {xs : List Int32} {Q : pm_R → Prop} {f : Nat → Int32} {A : Nat → List Int32} {R : Nat → Value} {g : Nat → Int32} {B : Nat → List Int32} {x3 : Int32} (h3 : 0 ≤ x3.toInt) (h4 : x3.toInt + 7 ≤ xs.length) (hl : xs.length ≤ 3584) (hS : ST f A R g B) (kk : ∀ (f' : Nat → Int32) (A' : Nat → List Int32) (R' : Nat → Value) (g' : Nat → Int32) (B' : Nat → List Int32), ST f' A' R' g' B' → pmE pg (pg_X xs) pg_tyl pg_cl 41 318 2476 [.retAddr 0, .ref 0, .ref 147, .int x3] [] (cd f' A' R' (em g' B')) Q) : pmE pg (pg_X xs) pg_tyl pg_cl 41 318 216 [.retAddr 0, .ref 0, .ref 147, .int x3] [] (cd f A R (em g B)) Q := by
  obtain ⟨hC, hM, hR⟩ := hS
  refine pe_aload_n (j := 1) (by decide +kernel) rfl ?_
  refine pe_aloadX_n (j := 0) (by decide +kernel) rfl ?_
  refine pe_iload_n (j := 3) (by decide +kernel) rfl ?_
  refine pe_iconstv (n := 1) (v := 1) (by decide +kernel) (by decide +kernel) ?_
  refine pz_add (by decide +kernel) rfl kz_1 (by omega) (by omega) (fun z1 hz1 => ?_)
  refine pz_ialdX (n := xs.length) (by decide +kernel) (show pg_X xs 0 = some (0, xs, 0) from rfl) rfl hz1 (by omega) (by omega) (fun v2 ev2 => ?_)
  clear hz1
  refine pe_aloadX_n (j := 0) (by decide +kernel) rfl ?_
  refine pe_iload_n (j := 3) (by decide +kernel) rfl ?_
  refine pe_iconstv (n := 2) (v := 2) (by decide +kernel) (by decide +kernel) ?_
  refine pz_add (by decide +kernel) rfl kz_2 (by omega) (by omega) (fun z3 hz3 => ?_)
  refine pz_ialdX (n := xs.length) (by decide +kernel) (show pg_X xs 0 = some (0, xs, 0) from rfl) rfl hz3 (by omega) (by omega) (fun v4 ev4 => ?_)
  clear hz3
  refine pe_aloadX_n (j := 0) (by decide +kernel) rfl ?_
  refine pe_iload_n (j := 3) (by decide +kernel) rfl ?_
  refine pe_iconstv (n := 3) (v := 3) (by decide +kernel) (by decide +kernel) ?_
  refine pz_add (by decide +kernel) rfl kz_3 (by omega) (by omega) (fun z5 hz5 => ?_)
  refine pz_ialdX (n := xs.length) (by decide +kernel) (show pg_X xs 0 = some (0, xs, 0) from rfl) rfl hz5 (by omega) (by omega) (fun v6 ev6 => ?_)
  clear hz5
  refine pe_aloadX_n (j := 0) (by decide +kernel) rfl ?_
  refine pe_iload_n (j := 3) (by decide +kernel) rfl ?_
  refine pe_iconstv (n := 4) (v := 4) (by decide +kernel) (by decide +kernel) ?_
  refine pz_add (by decide +kernel) rfl kz_4 (by omega) (by omega) (fun z7 hz7 => ?_)
  refine pz_ialdX (n := xs.length) (by decide +kernel) (show pg_X xs 0 = some (0, xs, 0) from rfl) rfl hz7 (by omega) (by omega) (fun v8 ev8 => ?_)
  clear hz7
  refine pe_aloadX_n (j := 0) (by decide +kernel) rfl ?_
  refine pe_iload_n (j := 3) (by decide +kernel) rfl ?_
  refine pe_iconstv (n := 5) (v := 5) (by decide +kernel) (by decide +kernel) ?_
  refine pz_add (by decide +kernel) rfl kz_5 (by omega) (by omega) (fun z9 hz9 => ?_)
  refine pz_ialdX (n := xs.length) (by decide +kernel) (show pg_X xs 0 = some (0, xs, 0) from rfl) rfl hz9 (by omega) (by omega) (fun v10 ev10 => ?_)
  clear hz9
  refine pz_callV (j := 13) (mj := 13) (by decide +kernel) (cll_V (args := [.int v10, .int v8, .int v6, .int v4, .int v2]) (n := 5) (by decide +kernel) rfl rfl cd_o0 (by decide +kernel) (Nat.le_of_ble_eq_true rfl) (Nat.le_of_ble_eq_true rfl)) ((pmE_PS (CM_13 st_XO hC))) (fun q11a q11b q11c q11d hqq11 => ?_)
  obtain ⟨⟨f12, A13, rq11, eq11, hIq11, hGq11, hFq11, kq11⟩, kpq11⟩ := hqq11
  cases eq11
  refine ⟨rfl, rfl, ?_⟩
  show pmE pg (pg_X xs) pg_tyl pg_cl 41 318 245 [.retAddr 0, .ref 0, .ref 147, .int x3] [.int rq11] (cd f12 A13 R (em g B)) _
  refine pe_pop (by decide +kernel) rfl ?_
  refine pe_aload_n (j := 2) (by decide +kernel) rfl ?_
  refine pe_aloadX_n (j := 0) (by decide +kernel) rfl ?_
  refine pe_iload_n (j := 3) (by decide +kernel) rfl ?_
  refine pe_iconstv (n := 1) (v := 1) (by decide +kernel) (by decide +kernel) ?_
  refine pz_add (by decide +kernel) rfl kz_1 (by omega) (by omega) (fun z14 hz14 => ?_)
  refine pz_ialdX (n := xs.length) (by decide +kernel) (show pg_X xs 0 = some (0, xs, 0) from rfl) rfl hz14 (by omega) (by omega) (fun v15 ev15 => ?_)
  clear hz14
  refine pe_aloadX_n (j := 0) (by decide +kernel) rfl ?_
  refine pe_iload_n (j := 3) (by decide +kernel) rfl ?_
  refine pe_iconstv (n := 2) (v := 2) (by decide +kernel) (by decide +kernel) ?_
  refine pz_add (by decide +kernel) rfl kz_2 (by omega) (by omega) (fun z16 hz16 => ?_)
  refine pz_ialdX (n := xs.length) (by decide +kernel) (show pg_X xs 0 = some (0, xs, 0) from rfl) rfl hz16 (by omega) (by omega) (fun v17 ev17 => ?_)
  clear hz16
  refine pe_aloadX_n (j := 0) (by decide +kernel) rfl ?_
  refine pe_iload_n (j := 3) (by decide +kernel) rfl ?_
  refine pe_iconstv (n := 3) (v := 3) (by decide +kernel) (by decide +kernel) ?_
  refine pz_add (by decide +kernel) rfl kz_3 (by omega) (by omega) (fun z18 hz18 => ?_)
  refine pz_ialdX (n := xs.length) (by decide +kernel) (show pg_X xs 0 = some (0, xs, 0) from rfl) rfl hz18 (by omega) (by omega) (fun v19 ev19 => ?_)
  clear hz18
  refine pe_aloadX_n (j := 0) (by decide +kernel) rfl ?_
  refine pe_iload_n (j := 3) (by decide +kernel) rfl ?_
  refine pe_iconstv (n := 4) (v := 4) (by decide +kernel) (by decide +kernel) ?_
  refine pz_add (by decide +kernel) rfl kz_4 (by omega) (by omega) (fun z20 hz20 => ?_)
  refine pz_ialdX (n := xs.length) (by decide +kernel) (show pg_X xs 0 = some (0, xs, 0) from rfl) rfl hz20 (by omega) (by omega) (fun v21 ev21 => ?_)
  clear hz20
  refine pe_aloadX_n (j := 0) (by decide +kernel) rfl ?_
  refine pe_iload_n (j := 3) (by decide +kernel) rfl ?_
  refine pe_iconstv (n := 5) (v := 5) (by decide +kernel) (by decide +kernel) ?_
  refine pz_add (by decide +kernel) rfl kz_5 (by omega) (by omega) (fun z22 hz22 => ?_)
  refine pz_ialdX (n := xs.length) (by decide +kernel) (show pg_X xs 0 = some (0, xs, 0) from rfl) rfl hz22 (by omega) (by omega) (fun v23 ev23 => ?_)
  clear hz22
  show pmE pg (pg_X xs) pg_tyl pg_cl 41 318 272 [.retAddr 0, .ref 0, .ref 147, .int x3] [.int v23, .int v21, .int v19, .int v17, .int v15, .ref 147] (md (cc f12 A13 R) g B) _
  refine pz_callV (j := 17) (mj := 196) (by decide +kernel) (cll_V (args := [.int v23, .int v21, .int v19, .int v17, .int v15]) (n := 5) (by decide +kernel) rfl rfl (md_o cc_len) (by decide +kernel) (Nat.le_of_ble_eq_true rfl) (Nat.le_of_ble_eq_true rfl)) ((pmE_PS (NM_196 cc_len hM))) (fun q24a q24b q24c q24d hqq24 => ?_)
  obtain ⟨⟨B25, rq24, eq24, hIq24, hFq24, kq24⟩, kpq24⟩ := hqq24
  cases eq24
  refine ⟨rfl, rfl, ?_⟩
  show pmE pg (pg_X xs) pg_tyl pg_cl 41 318 275 [.retAddr 0, .ref 0, .ref 147, .int x3] [.int rq24] (cd f12 A13 R (em g B25)) _
  obtain ⟨kA, psA⟩ := kpq11
  obtain ⟨kB, psB⟩ := kpq24
  have psA : PS (pg_X xs) kA 13 0 [.ref 0, .int v2, .int v4, .int v6, .int v8, .int v10] [] (cd f A R (em g B)) (some (.int rq11)) (cd f12 A13 R (em g B)) := psA
  have psB : PS (pg_X xs) kB 196 0 [.ref 147, .int v15, .int v17, .int v19, .int v21, .int v23, pm_dead, pm_dead] [] (cd f12 A13 R (em g B)) (some (.int rq24)) (cd f12 A13 R (em g B25)) := psB
  rw [show v15 = v2 from ev15.trans ev2.symm] at psB
  rw [show v17 = v4 from ev17.trans ev4.symm] at psB
  rw [show v19 = v6 from ev19.trans ev6.symm] at psB
  rw [show v21 = v8 from ev21.trans ev8.symm] at psB
  rw [show v23 = v10 from ev23.trans ev10.symm] at psB
  obtain ⟨hre, hrl⟩ := R4FEED hR psA psB
  refine pe_pop (by decide +kernel) rfl ?_
  refine pe_goto (off := 2200) (t := 2476) (by decide +kernel) (by decide) rfl ?_
  exact kk _ _ _ _ _ ⟨hIq11, hIq24, hrl⟩
set_option maxRecDepth 100000 in
set_option maxHeartbeats 8000000 in
theorem LC_1 {xs : List Int32} {Q : pm_R → Prop} {f : Nat → Int32} {A : Nat → List Int32} {R : Nat → Value} {g : Nat → Int32} {B : Nat → List Int32} {x3 : Int32} (h3 : 0 ≤ x3.toInt) (h4 : x3.toInt + 7 ≤ xs.length) (hl : xs.length ≤ 3584) (hS : ST f A R g B) (kk : ∀ (f' : Nat → Int32) (A' : Nat → List Int32) (R' : Nat → Value) (g' : Nat → Int32) (B' : Nat → List Int32), ST f' A' R' g' B' → pmE pg (pg_X xs) pg_tyl pg_cl 41 318 2476 [.retAddr 0, .ref 0, .ref 147, .int x3] [] (cd f' A' R' (em g' B')) Q) : pmE pg (pg_X xs) pg_tyl pg_cl 41 318 279 [.retAddr 0, .ref 0, .ref 147, .int x3] [] (cd f A R (em g B)) Q := by
  obtain ⟨hC, hM, hR⟩ := hS
  refine pe_aload_n (j := 1) (by decide +kernel) rfl ?_
  refine pe_aloadX_n (j := 0) (by decide +kernel) rfl ?_
  refine pe_iload_n (j := 3) (by decide +kernel) rfl ?_
  refine pe_iconstv (n := 1) (v := 1) (by decide +kernel) (by decide +kernel) ?_
  refine pz_add (by decide +kernel) rfl kz_1 (by omega) (by omega) (fun z1 hz1 => ?_)
  refine pz_ialdX (n := xs.length) (by decide +kernel) (show pg_X xs 0 = some (0, xs, 0) from rfl) rfl hz1 (by omega) (by omega) (fun v2 ev2 => ?_)
  clear hz1
  refine pz_callV (j := 18) (mj := 15) (by decide +kernel) (cll_V (args := [.int v2]) (n := 1) (by decide +kernel) rfl rfl cd_o0 (by decide +kernel) (Nat.le_of_ble_eq_true rfl) (Nat.le_of_ble_eq_true rfl)) ((pmE_PS (CM_15 st_XO hC))) (fun q3a q3b q3c q3d hqq3 => ?_)
  obtain ⟨⟨f4, rq3, eq3, hIq3, hGq3, kq3⟩, kpq3⟩ := hqq3
  cases eq3
  refine ⟨rfl, rfl, ?_⟩
  show pmE pg (pg_X xs) pg_tyl pg_cl 41 318 288 [.retAddr 0, .ref 0, .ref 147, .int x3] [.int rq3] (cd f4 A R (em g B)) _
  refine pe_pop (by decide +kernel) rfl ?_
  refine pe_aload_n (j := 2) (by decide +kernel) rfl ?_
  refine pe_aloadX_n (j := 0) (by decide +kernel) rfl ?_
  refine pe_iload_n (j := 3) (by decide +kernel) rfl ?_
  refine pe_iconstv (n := 1) (v := 1) (by decide +kernel) (by decide +kernel) ?_
  refine pz_add (by decide +kernel) rfl kz_1 (by omega) (by omega) (fun z5 hz5 => ?_)
  refine pz_ialdX (n := xs.length) (by decide +kernel) (show pg_X xs 0 = some (0, xs, 0) from rfl) rfl hz5 (by omega) (by omega) (fun v6 ev6 => ?_)
  clear hz5
  show pmE pg (pg_X xs) pg_tyl pg_cl 41 318 295 [.retAddr 0, .ref 0, .ref 147, .int x3] [.int v6, .ref 147] (md (cc f4 A R) g B) _
  refine pz_callV (j := 22) (mj := 197) (by decide +kernel) (cll_V (args := [.int v6]) (n := 1) (by decide +kernel) rfl rfl (md_o cc_len) (by decide +kernel) (Nat.le_of_ble_eq_true rfl) (Nat.le_of_ble_eq_true rfl)) ((pmE_PS (NM_197 cc_len hM))) (fun q7a q7b q7c q7d hqq7 => ?_)
  obtain ⟨⟨B8, rq7, eq7, hIq7, hFq7, kq7⟩, kpq7⟩ := hqq7
  cases eq7
  refine ⟨rfl, rfl, ?_⟩
  show pmE pg (pg_X xs) pg_tyl pg_cl 41 318 298 [.retAddr 0, .ref 0, .ref 147, .int x3] [.int rq7] (cd f4 A R (em g B8)) _
  obtain ⟨kA, psA⟩ := kpq3
  obtain ⟨kB, psB⟩ := kpq7
  have psA : PS (pg_X xs) kA 15 0 [.ref 0, .int v2] [] (cd f A R (em g B)) (some (.int rq3)) (cd f4 A R (em g B)) := psA
  have psB : PS (pg_X xs) kB 197 0 [.ref 147, .int v6] [] (cd f4 A R (em g B)) (some (.int rq7)) (cd f4 A R (em g B8)) := psB
  rw [show v6 = v2 from ev6.trans ev2.symm] at psB
  obtain ⟨hre, hrl⟩ := R4ENDS hR psA psB
  refine pe_pop (by decide +kernel) rfl ?_
  refine pe_goto (off := 2177) (t := 2476) (by decide +kernel) (by decide) rfl ?_
  exact kk _ _ _ _ _ ⟨hIq3, hIq7, hrl⟩
set_option maxRecDepth 100000 in
set_option maxHeartbeats 8000000 in
theorem LC_2 {xs : List Int32} {Q : pm_R → Prop} {f : Nat → Int32} {A : Nat → List Int32} {R : Nat → Value} {g : Nat → Int32} {B : Nat → List Int32} {x3 : Int32} (h3 : 0 ≤ x3.toInt) (h4 : x3.toInt + 7 ≤ xs.length) (hl : xs.length ≤ 3584) (hS : ST f A R g B) (kk : ∀ (f' : Nat → Int32) (A' : Nat → List Int32) (R' : Nat → Value) (g' : Nat → Int32) (B' : Nat → List Int32), ST f' A' R' g' B' → pmE pg (pg_X xs) pg_tyl pg_cl 41 318 2476 [.retAddr 0, .ref 0, .ref 147, .int x3] [] (cd f' A' R' (em g' B')) Q) : pmE pg (pg_X xs) pg_tyl pg_cl 41 318 302 [.retAddr 0, .ref 0, .ref 147, .int x3] [] (cd f A R (em g B)) Q := by
  obtain ⟨hC, hM, hR⟩ := hS
  refine pe_aload_n (j := 1) (by decide +kernel) rfl ?_
  refine pe_aloadX_n (j := 0) (by decide +kernel) rfl ?_
  refine pe_iload_n (j := 3) (by decide +kernel) rfl ?_
  refine pe_iconstv (n := 1) (v := 1) (by decide +kernel) (by decide +kernel) ?_
  refine pz_add (by decide +kernel) rfl kz_1 (by omega) (by omega) (fun z1 hz1 => ?_)
  refine pz_ialdX (n := xs.length) (by decide +kernel) (show pg_X xs 0 = some (0, xs, 0) from rfl) rfl hz1 (by omega) (by omega) (fun v2 ev2 => ?_)
  clear hz1
  refine pe_aloadX_n (j := 0) (by decide +kernel) rfl ?_
  refine pe_iload_n (j := 3) (by decide +kernel) rfl ?_
  refine pe_iconstv (n := 2) (v := 2) (by decide +kernel) (by decide +kernel) ?_
  refine pz_add (by decide +kernel) rfl kz_2 (by omega) (by omega) (fun z3 hz3 => ?_)
  refine pz_ialdX (n := xs.length) (by decide +kernel) (show pg_X xs 0 = some (0, xs, 0) from rfl) rfl hz3 (by omega) (by omega) (fun v4 ev4 => ?_)
  clear hz3
  refine pz_callV (j := 23) (mj := 16) (by decide +kernel) (cll_V (args := [.int v4, .int v2]) (n := 2) (by decide +kernel) rfl rfl cd_o0 (by decide +kernel) (Nat.le_of_ble_eq_true rfl) (Nat.le_of_ble_eq_true rfl)) ((pmE_PS (CM_16 st_XO hC))) (fun q5a q5b q5c q5d hqq5 => ?_)
  obtain ⟨⟨f6, A7, R8, rq5, eq5, hIq5, hGq5, hFq5, hHq5, hX0q5, kq5⟩, kpq5⟩ := hqq5
  cases eq5
  refine ⟨rfl, rfl, ?_⟩
  show pmE pg (pg_X xs) pg_tyl pg_cl 41 318 316 [.retAddr 0, .ref 0, .ref 147, .int x3] [.int rq5] (cd f6 A7 R8 (em g B)) _
  refine pe_pop (by decide +kernel) rfl ?_
  refine pe_aload_n (j := 2) (by decide +kernel) rfl ?_
  refine pe_aloadX_n (j := 0) (by decide +kernel) rfl ?_
  refine pe_iload_n (j := 3) (by decide +kernel) rfl ?_
  refine pe_iconstv (n := 1) (v := 1) (by decide +kernel) (by decide +kernel) ?_
  refine pz_add (by decide +kernel) rfl kz_1 (by omega) (by omega) (fun z9 hz9 => ?_)
  refine pz_ialdX (n := xs.length) (by decide +kernel) (show pg_X xs 0 = some (0, xs, 0) from rfl) rfl hz9 (by omega) (by omega) (fun v10 ev10 => ?_)
  clear hz9
  refine pe_aloadX_n (j := 0) (by decide +kernel) rfl ?_
  refine pe_iload_n (j := 3) (by decide +kernel) rfl ?_
  refine pe_iconstv (n := 2) (v := 2) (by decide +kernel) (by decide +kernel) ?_
  refine pz_add (by decide +kernel) rfl kz_2 (by omega) (by omega) (fun z11 hz11 => ?_)
  refine pz_ialdX (n := xs.length) (by decide +kernel) (show pg_X xs 0 = some (0, xs, 0) from rfl) rfl hz11 (by omega) (by omega) (fun v12 ev12 => ?_)
  clear hz11
  show pmE pg (pg_X xs) pg_tyl pg_cl 41 318 328 [.retAddr 0, .ref 0, .ref 147, .int x3] [.int v12, .int v10, .ref 147] (md (cc f6 A7 R8) g B) _
  refine pz_callV (j := 27) (mj := 198) (by decide +kernel) (cll_V (args := [.int v12, .int v10]) (n := 2) (by decide +kernel) rfl rfl (md_o cc_len) (by decide +kernel) (Nat.le_of_ble_eq_true rfl) (Nat.le_of_ble_eq_true rfl)) ((pmE_PS (NM_198 cc_len hM))) (fun q13a q13b q13c q13d hqq13 => ?_)
  obtain ⟨⟨g14, B15, rq13, eq13, hIq13, hGq13, hFq13, kq13⟩, kpq13⟩ := hqq13
  cases eq13
  refine ⟨rfl, rfl, ?_⟩
  show pmE pg (pg_X xs) pg_tyl pg_cl 41 318 331 [.retAddr 0, .ref 0, .ref 147, .int x3] [.int rq13] (cd f6 A7 R8 (em g14 B15)) _
  obtain ⟨kA, psA⟩ := kpq5
  obtain ⟨kB, psB⟩ := kpq13
  have psA : PS (pg_X xs) kA 16 0 [.ref 0, .int v2, .int v4, pm_dead, pm_dead] [] (cd f A R (em g B)) (some (.int rq5)) (cd f6 A7 R8 (em g B)) := psA
  have psB : PS (pg_X xs) kB 198 0 [.ref 147, .int v10, .int v12, pm_dead, pm_dead, pm_dead] [] (cd f6 A7 R8 (em g B)) (some (.int rq13)) (cd f6 A7 R8 (em g14 B15)) := psB
  rw [show v10 = v2 from ev10.trans ev2.symm] at psB
  rw [show v12 = v4 from ev12.trans ev4.symm] at psB
  obtain ⟨hre, hrl⟩ := R4TXT st_XO hR psA psB
  refine pe_pop (by decide +kernel) rfl ?_
  refine pe_goto (off := 2144) (t := 2476) (by decide +kernel) (by decide) rfl ?_
  exact kk _ _ _ _ _ ⟨hIq5, hIq13, hrl⟩
set_option maxRecDepth 100000 in
set_option maxHeartbeats 8000000 in
theorem LC_3 {xs : List Int32} {Q : pm_R → Prop} {f : Nat → Int32} {A : Nat → List Int32} {R : Nat → Value} {g : Nat → Int32} {B : Nat → List Int32} {x3 : Int32} (h3 : 0 ≤ x3.toInt) (h4 : x3.toInt + 7 ≤ xs.length) (hl : xs.length ≤ 3584) (hS : ST f A R g B) (kk : ∀ (f' : Nat → Int32) (A' : Nat → List Int32) (R' : Nat → Value) (g' : Nat → Int32) (B' : Nat → List Int32), ST f' A' R' g' B' → pmE pg (pg_X xs) pg_tyl pg_cl 41 318 2476 [.retAddr 0, .ref 0, .ref 147, .int x3] [] (cd f' A' R' (em g' B')) Q) : pmE pg (pg_X xs) pg_tyl pg_cl 41 318 335 [.retAddr 0, .ref 0, .ref 147, .int x3] [] (cd f A R (em g B)) Q := by
  obtain ⟨hC, hM, hR⟩ := hS
  refine pe_aload_n (j := 1) (by decide +kernel) rfl ?_
  refine pe_aloadX_n (j := 0) (by decide +kernel) rfl ?_
  refine pe_iload_n (j := 3) (by decide +kernel) rfl ?_
  refine pe_iconstv (n := 1) (v := 1) (by decide +kernel) (by decide +kernel) ?_
  refine pz_add (by decide +kernel) rfl kz_1 (by omega) (by omega) (fun z1 hz1 => ?_)
  refine pz_ialdX (n := xs.length) (by decide +kernel) (show pg_X xs 0 = some (0, xs, 0) from rfl) rfl hz1 (by omega) (by omega) (fun v2 ev2 => ?_)
  clear hz1
  refine pz_callV (j := 28) (mj := 58) (by decide +kernel) (cll_V (args := [.int v2]) (n := 1) (by decide +kernel) rfl rfl cd_o0 (by decide +kernel) (Nat.le_of_ble_eq_true rfl) (Nat.le_of_ble_eq_true rfl)) (CM_58 st_XO hC) (fun q3a q3b q3c q3d hqq3 => ?_)
  obtain ⟨rq3, eq3, kq3⟩ := hqq3
  cases eq3
  refine ⟨rfl, rfl, ?_⟩
  show pmE pg (pg_X xs) pg_tyl pg_cl 41 318 344 [.retAddr 0, .ref 0, .ref 147, .int x3] [.int rq3] (cd f A R (em g B)) _
  refine pe_pop (by decide +kernel) rfl ?_
  refine pe_aload_n (j := 2) (by decide +kernel) rfl ?_
  refine pe_aloadX_n (j := 0) (by decide +kernel) rfl ?_
  refine pe_iload_n (j := 3) (by decide +kernel) rfl ?_
  refine pe_iconstv (n := 1) (v := 1) (by decide +kernel) (by decide +kernel) ?_
  refine pz_add (by decide +kernel) rfl kz_1 (by omega) (by omega) (fun z4 hz4 => ?_)
  refine pz_ialdX (n := xs.length) (by decide +kernel) (show pg_X xs 0 = some (0, xs, 0) from rfl) rfl hz4 (by omega) (by omega) (fun v5 ev5 => ?_)
  clear hz4
  show pmE pg (pg_X xs) pg_tyl pg_cl 41 318 351 [.retAddr 0, .ref 0, .ref 147, .int x3] [.int v5, .ref 147] (md (cc f A R) g B) _
  refine pz_callV (j := 31) (mj := 218) (by decide +kernel) (cll_V (args := [.int v5]) (n := 1) (by decide +kernel) rfl rfl (md_o cc_len) (by decide +kernel) (Nat.le_of_ble_eq_true rfl) (Nat.le_of_ble_eq_true rfl)) (MM_218 cc_len hM) (fun q6a q6b q6c q6d hqq6 => ?_)
  obtain ⟨rq6, eq6, kq6⟩ := hqq6
  cases eq6
  refine ⟨rfl, rfl, ?_⟩
  show pmE pg (pg_X xs) pg_tyl pg_cl 41 318 354 [.retAddr 0, .ref 0, .ref 147, .int x3] [.int rq6] (cd f A R (em g B)) _
  refine pe_pop (by decide +kernel) rfl ?_
  refine pe_goto (off := 2121) (t := 2476) (by decide +kernel) (by decide) rfl ?_
  exact kk _ _ _ _ _ ⟨hC, hM, (RL4_fr hC hM (fun _ _ => rfl) (fun _ _ => rfl) rfl rfl hR)⟩
set_option maxRecDepth 100000 in
set_option maxHeartbeats 8000000 in
theorem LC_4 {xs : List Int32} {Q : pm_R → Prop} {f : Nat → Int32} {A : Nat → List Int32} {R : Nat → Value} {g : Nat → Int32} {B : Nat → List Int32} {x3 : Int32} (h3 : 0 ≤ x3.toInt) (h4 : x3.toInt + 7 ≤ xs.length) (hl : xs.length ≤ 3584) (hS : ST f A R g B) (kk : ∀ (f' : Nat → Int32) (A' : Nat → List Int32) (R' : Nat → Value) (g' : Nat → Int32) (B' : Nat → List Int32), ST f' A' R' g' B' → pmE pg (pg_X xs) pg_tyl pg_cl 41 318 2476 [.retAddr 0, .ref 0, .ref 147, .int x3] [] (cd f' A' R' (em g' B')) Q) : pmE pg (pg_X xs) pg_tyl pg_cl 41 318 358 [.retAddr 0, .ref 0, .ref 147, .int x3] [] (cd f A R (em g B)) Q := by
  obtain ⟨hC, hM, hR⟩ := hS
  refine pe_aload_n (j := 1) (by decide +kernel) rfl ?_
  refine pe_aloadX_n (j := 0) (by decide +kernel) rfl ?_
  refine pe_iload_n (j := 3) (by decide +kernel) rfl ?_
  refine pe_iconstv (n := 1) (v := 1) (by decide +kernel) (by decide +kernel) ?_
  refine pz_add (by decide +kernel) rfl kz_1 (by omega) (by omega) (fun z1 hz1 => ?_)
  refine pz_ialdX (n := xs.length) (by decide +kernel) (show pg_X xs 0 = some (0, xs, 0) from rfl) rfl hz1 (by omega) (by omega) (fun v2 ev2 => ?_)
  clear hz1
  refine pe_aloadX_n (j := 0) (by decide +kernel) rfl ?_
  refine pe_iload_n (j := 3) (by decide +kernel) rfl ?_
  refine pe_iconstv (n := 2) (v := 2) (by decide +kernel) (by decide +kernel) ?_
  refine pz_add (by decide +kernel) rfl kz_2 (by omega) (by omega) (fun z3 hz3 => ?_)
  refine pz_ialdX (n := xs.length) (by decide +kernel) (show pg_X xs 0 = some (0, xs, 0) from rfl) rfl hz3 (by omega) (by omega) (fun v4 ev4 => ?_)
  clear hz3
  refine pz_callV (j := 32) (mj := 59) (by decide +kernel) (cll_V (args := [.int v4, .int v2]) (n := 2) (by decide +kernel) rfl rfl cd_o0 (by decide +kernel) (Nat.le_of_ble_eq_true rfl) (Nat.le_of_ble_eq_true rfl)) (CM_59 st_XO hC) (fun q5a q5b q5c q5d hqq5 => ?_)
  obtain ⟨rq5, eq5, kq5⟩ := hqq5
  cases eq5
  refine ⟨rfl, rfl, ?_⟩
  show pmE pg (pg_X xs) pg_tyl pg_cl 41 318 372 [.retAddr 0, .ref 0, .ref 147, .int x3] [.int rq5] (cd f A R (em g B)) _
  refine pe_pop (by decide +kernel) rfl ?_
  refine pe_aload_n (j := 2) (by decide +kernel) rfl ?_
  refine pe_aloadX_n (j := 0) (by decide +kernel) rfl ?_
  refine pe_iload_n (j := 3) (by decide +kernel) rfl ?_
  refine pe_iconstv (n := 1) (v := 1) (by decide +kernel) (by decide +kernel) ?_
  refine pz_add (by decide +kernel) rfl kz_1 (by omega) (by omega) (fun z6 hz6 => ?_)
  refine pz_ialdX (n := xs.length) (by decide +kernel) (show pg_X xs 0 = some (0, xs, 0) from rfl) rfl hz6 (by omega) (by omega) (fun v7 ev7 => ?_)
  clear hz6
  refine pe_aloadX_n (j := 0) (by decide +kernel) rfl ?_
  refine pe_iload_n (j := 3) (by decide +kernel) rfl ?_
  refine pe_iconstv (n := 2) (v := 2) (by decide +kernel) (by decide +kernel) ?_
  refine pz_add (by decide +kernel) rfl kz_2 (by omega) (by omega) (fun z8 hz8 => ?_)
  refine pz_ialdX (n := xs.length) (by decide +kernel) (show pg_X xs 0 = some (0, xs, 0) from rfl) rfl hz8 (by omega) (by omega) (fun v9 ev9 => ?_)
  clear hz8
  show pmE pg (pg_X xs) pg_tyl pg_cl 41 318 384 [.retAddr 0, .ref 0, .ref 147, .int x3] [.int v9, .int v7, .ref 147] (md (cc f A R) g B) _
  refine pz_callV (j := 35) (mj := 219) (by decide +kernel) (cll_V (args := [.int v9, .int v7]) (n := 2) (by decide +kernel) rfl rfl (md_o cc_len) (by decide +kernel) (Nat.le_of_ble_eq_true rfl) (Nat.le_of_ble_eq_true rfl)) (MM_219 cc_len hM) (fun q10a q10b q10c q10d hqq10 => ?_)
  obtain ⟨rq10, eq10, kq10⟩ := hqq10
  cases eq10
  refine ⟨rfl, rfl, ?_⟩
  show pmE pg (pg_X xs) pg_tyl pg_cl 41 318 387 [.retAddr 0, .ref 0, .ref 147, .int x3] [.int rq10] (cd f A R (em g B)) _
  refine pe_pop (by decide +kernel) rfl ?_
  refine pe_goto (off := 2088) (t := 2476) (by decide +kernel) (by decide) rfl ?_
  exact kk _ _ _ _ _ ⟨hC, hM, (RL4_fr hC hM (fun _ _ => rfl) (fun _ _ => rfl) rfl rfl hR)⟩
set_option maxRecDepth 100000 in
set_option maxHeartbeats 8000000 in
theorem LC_5 {xs : List Int32} {Q : pm_R → Prop} {f : Nat → Int32} {A : Nat → List Int32} {R : Nat → Value} {g : Nat → Int32} {B : Nat → List Int32} {x3 : Int32} (h3 : 0 ≤ x3.toInt) (h4 : x3.toInt + 7 ≤ xs.length) (hl : xs.length ≤ 3584) (hS : ST f A R g B) (kk : ∀ (f' : Nat → Int32) (A' : Nat → List Int32) (R' : Nat → Value) (g' : Nat → Int32) (B' : Nat → List Int32), ST f' A' R' g' B' → pmE pg (pg_X xs) pg_tyl pg_cl 41 318 2476 [.retAddr 0, .ref 0, .ref 147, .int x3] [] (cd f' A' R' (em g' B')) Q) : pmE pg (pg_X xs) pg_tyl pg_cl 41 318 391 [.retAddr 0, .ref 0, .ref 147, .int x3] [] (cd f A R (em g B)) Q := by
  obtain ⟨hC, hM, hR⟩ := hS
  refine pe_aload_n (j := 1) (by decide +kernel) rfl ?_
  refine pe_aloadX_n (j := 0) (by decide +kernel) rfl ?_
  refine pe_iload_n (j := 3) (by decide +kernel) rfl ?_
  refine pe_iconstv (n := 1) (v := 1) (by decide +kernel) (by decide +kernel) ?_
  refine pz_add (by decide +kernel) rfl kz_1 (by omega) (by omega) (fun z1 hz1 => ?_)
  refine pz_ialdX (n := xs.length) (by decide +kernel) (show pg_X xs 0 = some (0, xs, 0) from rfl) rfl hz1 (by omega) (by omega) (fun v2 ev2 => ?_)
  clear hz1
  refine pe_aloadX_n (j := 0) (by decide +kernel) rfl ?_
  refine pe_iload_n (j := 3) (by decide +kernel) rfl ?_
  refine pe_iconstv (n := 2) (v := 2) (by decide +kernel) (by decide +kernel) ?_
  refine pz_add (by decide +kernel) rfl kz_2 (by omega) (by omega) (fun z3 hz3 => ?_)
  refine pz_ialdX (n := xs.length) (by decide +kernel) (show pg_X xs 0 = some (0, xs, 0) from rfl) rfl hz3 (by omega) (by omega) (fun v4 ev4 => ?_)
  clear hz3
  refine pe_aloadX_n (j := 0) (by decide +kernel) rfl ?_
  refine pe_iload_n (j := 3) (by decide +kernel) rfl ?_
  refine pe_iconstv (n := 3) (v := 3) (by decide +kernel) (by decide +kernel) ?_
  refine pz_add (by decide +kernel) rfl kz_3 (by omega) (by omega) (fun z5 hz5 => ?_)
  refine pz_ialdX (n := xs.length) (by decide +kernel) (show pg_X xs 0 = some (0, xs, 0) from rfl) rfl hz5 (by omega) (by omega) (fun v6 ev6 => ?_)
  clear hz5
  refine pz_callV (j := 36) (mj := 62) (by decide +kernel) (cll_V (args := [.int v6, .int v4, .int v2]) (n := 3) (by decide +kernel) rfl rfl cd_o0 (by decide +kernel) (Nat.le_of_ble_eq_true rfl) (Nat.le_of_ble_eq_true rfl)) (CM_62 st_XO hC) (fun q7a q7b q7c q7d hqq7 => ?_)
  obtain ⟨rq7, eq7, kq7⟩ := hqq7
  cases eq7
  refine ⟨rfl, rfl, ?_⟩
  show pmE pg (pg_X xs) pg_tyl pg_cl 41 318 410 [.retAddr 0, .ref 0, .ref 147, .int x3] [.int rq7] (cd f A R (em g B)) _
  refine pe_pop (by decide +kernel) rfl ?_
  refine pe_aload_n (j := 2) (by decide +kernel) rfl ?_
  refine pe_aloadX_n (j := 0) (by decide +kernel) rfl ?_
  refine pe_iload_n (j := 3) (by decide +kernel) rfl ?_
  refine pe_iconstv (n := 1) (v := 1) (by decide +kernel) (by decide +kernel) ?_
  refine pz_add (by decide +kernel) rfl kz_1 (by omega) (by omega) (fun z8 hz8 => ?_)
  refine pz_ialdX (n := xs.length) (by decide +kernel) (show pg_X xs 0 = some (0, xs, 0) from rfl) rfl hz8 (by omega) (by omega) (fun v9 ev9 => ?_)
  clear hz8
  refine pe_aloadX_n (j := 0) (by decide +kernel) rfl ?_
  refine pe_iload_n (j := 3) (by decide +kernel) rfl ?_
  refine pe_iconstv (n := 2) (v := 2) (by decide +kernel) (by decide +kernel) ?_
  refine pz_add (by decide +kernel) rfl kz_2 (by omega) (by omega) (fun z10 hz10 => ?_)
  refine pz_ialdX (n := xs.length) (by decide +kernel) (show pg_X xs 0 = some (0, xs, 0) from rfl) rfl hz10 (by omega) (by omega) (fun v11 ev11 => ?_)
  clear hz10
  refine pe_aloadX_n (j := 0) (by decide +kernel) rfl ?_
  refine pe_iload_n (j := 3) (by decide +kernel) rfl ?_
  refine pe_iconstv (n := 3) (v := 3) (by decide +kernel) (by decide +kernel) ?_
  refine pz_add (by decide +kernel) rfl kz_3 (by omega) (by omega) (fun z12 hz12 => ?_)
  refine pz_ialdX (n := xs.length) (by decide +kernel) (show pg_X xs 0 = some (0, xs, 0) from rfl) rfl hz12 (by omega) (by omega) (fun v13 ev13 => ?_)
  clear hz12
  show pmE pg (pg_X xs) pg_tyl pg_cl 41 318 427 [.retAddr 0, .ref 0, .ref 147, .int x3] [.int v13, .int v11, .int v9, .ref 147] (md (cc f A R) g B) _
  refine pz_callV (j := 40) (mj := 220) (by decide +kernel) (cll_V (args := [.int v13, .int v11, .int v9]) (n := 3) (by decide +kernel) rfl rfl (md_o cc_len) (by decide +kernel) (Nat.le_of_ble_eq_true rfl) (Nat.le_of_ble_eq_true rfl)) (MM_220 cc_len hM) (fun q14a q14b q14c q14d hqq14 => ?_)
  obtain ⟨rq14, eq14, kq14⟩ := hqq14
  cases eq14
  refine ⟨rfl, rfl, ?_⟩
  show pmE pg (pg_X xs) pg_tyl pg_cl 41 318 430 [.retAddr 0, .ref 0, .ref 147, .int x3] [.int rq14] (cd f A R (em g B)) _
  refine pe_pop (by decide +kernel) rfl ?_
  refine pe_goto (off := 2045) (t := 2476) (by decide +kernel) (by decide) rfl ?_
  exact kk _ _ _ _ _ ⟨hC, hM, (RL4_fr hC hM (fun _ _ => rfl) (fun _ _ => rfl) rfl rfl hR)⟩
set_option maxRecDepth 100000 in
set_option maxHeartbeats 8000000 in
theorem LC_6 {xs : List Int32} {Q : pm_R → Prop} {f : Nat → Int32} {A : Nat → List Int32} {R : Nat → Value} {g : Nat → Int32} {B : Nat → List Int32} {x3 : Int32} (h3 : 0 ≤ x3.toInt) (h4 : x3.toInt + 7 ≤ xs.length) (hl : xs.length ≤ 3584) (hS : ST f A R g B) (kk : ∀ (f' : Nat → Int32) (A' : Nat → List Int32) (R' : Nat → Value) (g' : Nat → Int32) (B' : Nat → List Int32), ST f' A' R' g' B' → pmE pg (pg_X xs) pg_tyl pg_cl 41 318 2476 [.retAddr 0, .ref 0, .ref 147, .int x3] [] (cd f' A' R' (em g' B')) Q) : pmE pg (pg_X xs) pg_tyl pg_cl 41 318 434 [.retAddr 0, .ref 0, .ref 147, .int x3] [] (cd f A R (em g B)) Q := by
  obtain ⟨hC, hM, hR⟩ := hS
  refine pe_aload_n (j := 1) (by decide +kernel) rfl ?_
  refine pe_aloadX_n (j := 0) (by decide +kernel) rfl ?_
  refine pe_iload_n (j := 3) (by decide +kernel) rfl ?_
  refine pe_iconstv (n := 1) (v := 1) (by decide +kernel) (by decide +kernel) ?_
  refine pz_add (by decide +kernel) rfl kz_1 (by omega) (by omega) (fun z1 hz1 => ?_)
  refine pz_ialdX (n := xs.length) (by decide +kernel) (show pg_X xs 0 = some (0, xs, 0) from rfl) rfl hz1 (by omega) (by omega) (fun v2 ev2 => ?_)
  clear hz1
  refine pe_aloadX_n (j := 0) (by decide +kernel) rfl ?_
  refine pe_iload_n (j := 3) (by decide +kernel) rfl ?_
  refine pe_iconstv (n := 2) (v := 2) (by decide +kernel) (by decide +kernel) ?_
  refine pz_add (by decide +kernel) rfl kz_2 (by omega) (by omega) (fun z3 hz3 => ?_)
  refine pz_ialdX (n := xs.length) (by decide +kernel) (show pg_X xs 0 = some (0, xs, 0) from rfl) rfl hz3 (by omega) (by omega) (fun v4 ev4 => ?_)
  clear hz3
  refine pe_aloadX_n (j := 0) (by decide +kernel) rfl ?_
  refine pe_iload_n (j := 3) (by decide +kernel) rfl ?_
  refine pe_iconstv (n := 3) (v := 3) (by decide +kernel) (by decide +kernel) ?_
  refine pz_add (by decide +kernel) rfl kz_3 (by omega) (by omega) (fun z5 hz5 => ?_)
  refine pz_ialdX (n := xs.length) (by decide +kernel) (show pg_X xs 0 = some (0, xs, 0) from rfl) rfl hz5 (by omega) (by omega) (fun v6 ev6 => ?_)
  clear hz5
  refine pz_callV (j := 41) (mj := 63) (by decide +kernel) (cll_V (args := [.int v6, .int v4, .int v2]) (n := 3) (by decide +kernel) rfl rfl cd_o0 (by decide +kernel) (Nat.le_of_ble_eq_true rfl) (Nat.le_of_ble_eq_true rfl)) (CM_63 st_XO hC) (fun q7a q7b q7c q7d hqq7 => ?_)
  obtain ⟨rq7, eq7, kq7⟩ := hqq7
  cases eq7
  refine ⟨rfl, rfl, ?_⟩
  show pmE pg (pg_X xs) pg_tyl pg_cl 41 318 453 [.retAddr 0, .ref 0, .ref 147, .int x3] [.int rq7] (cd f A R (em g B)) _
  refine pe_pop (by decide +kernel) rfl ?_
  refine pe_aload_n (j := 2) (by decide +kernel) rfl ?_
  refine pe_aloadX_n (j := 0) (by decide +kernel) rfl ?_
  refine pe_iload_n (j := 3) (by decide +kernel) rfl ?_
  refine pe_iconstv (n := 1) (v := 1) (by decide +kernel) (by decide +kernel) ?_
  refine pz_add (by decide +kernel) rfl kz_1 (by omega) (by omega) (fun z8 hz8 => ?_)
  refine pz_ialdX (n := xs.length) (by decide +kernel) (show pg_X xs 0 = some (0, xs, 0) from rfl) rfl hz8 (by omega) (by omega) (fun v9 ev9 => ?_)
  clear hz8
  refine pe_aloadX_n (j := 0) (by decide +kernel) rfl ?_
  refine pe_iload_n (j := 3) (by decide +kernel) rfl ?_
  refine pe_iconstv (n := 2) (v := 2) (by decide +kernel) (by decide +kernel) ?_
  refine pz_add (by decide +kernel) rfl kz_2 (by omega) (by omega) (fun z10 hz10 => ?_)
  refine pz_ialdX (n := xs.length) (by decide +kernel) (show pg_X xs 0 = some (0, xs, 0) from rfl) rfl hz10 (by omega) (by omega) (fun v11 ev11 => ?_)
  clear hz10
  refine pe_aloadX_n (j := 0) (by decide +kernel) rfl ?_
  refine pe_iload_n (j := 3) (by decide +kernel) rfl ?_
  refine pe_iconstv (n := 3) (v := 3) (by decide +kernel) (by decide +kernel) ?_
  refine pz_add (by decide +kernel) rfl kz_3 (by omega) (by omega) (fun z12 hz12 => ?_)
  refine pz_ialdX (n := xs.length) (by decide +kernel) (show pg_X xs 0 = some (0, xs, 0) from rfl) rfl hz12 (by omega) (by omega) (fun v13 ev13 => ?_)
  clear hz12
  show pmE pg (pg_X xs) pg_tyl pg_cl 41 318 470 [.retAddr 0, .ref 0, .ref 147, .int x3] [.int v13, .int v11, .int v9, .ref 147] (md (cc f A R) g B) _
  refine pz_callV (j := 44) (mj := 222) (by decide +kernel) (cll_V (args := [.int v13, .int v11, .int v9]) (n := 3) (by decide +kernel) rfl rfl (md_o cc_len) (by decide +kernel) (Nat.le_of_ble_eq_true rfl) (Nat.le_of_ble_eq_true rfl)) (MM_222 cc_len hM) (fun q14a q14b q14c q14d hqq14 => ?_)
  obtain ⟨rq14, eq14, kq14⟩ := hqq14
  cases eq14
  refine ⟨rfl, rfl, ?_⟩
  show pmE pg (pg_X xs) pg_tyl pg_cl 41 318 473 [.retAddr 0, .ref 0, .ref 147, .int x3] [.int rq14] (cd f A R (em g B)) _
  refine pe_pop (by decide +kernel) rfl ?_
  refine pe_goto (off := 2002) (t := 2476) (by decide +kernel) (by decide) rfl ?_
  exact kk _ _ _ _ _ ⟨hC, hM, (RL4_fr hC hM (fun _ _ => rfl) (fun _ _ => rfl) rfl rfl hR)⟩
set_option maxRecDepth 100000 in
set_option maxHeartbeats 8000000 in
theorem LC_7 {xs : List Int32} {Q : pm_R → Prop} {f : Nat → Int32} {A : Nat → List Int32} {R : Nat → Value} {g : Nat → Int32} {B : Nat → List Int32} {x3 : Int32} (h3 : 0 ≤ x3.toInt) (h4 : x3.toInt + 7 ≤ xs.length) (hl : xs.length ≤ 3584) (hS : ST f A R g B) (kk : ∀ (f' : Nat → Int32) (A' : Nat → List Int32) (R' : Nat → Value) (g' : Nat → Int32) (B' : Nat → List Int32), ST f' A' R' g' B' → pmE pg (pg_X xs) pg_tyl pg_cl 41 318 2476 [.retAddr 0, .ref 0, .ref 147, .int x3] [] (cd f' A' R' (em g' B')) Q) : pmE pg (pg_X xs) pg_tyl pg_cl 41 318 477 [.retAddr 0, .ref 0, .ref 147, .int x3] [] (cd f A R (em g B)) Q := by
  obtain ⟨hC, hM, hR⟩ := hS
  refine pe_aload_n (j := 1) (by decide +kernel) rfl ?_
  refine pe_aloadX_n (j := 0) (by decide +kernel) rfl ?_
  refine pe_iload_n (j := 3) (by decide +kernel) rfl ?_
  refine pe_iconstv (n := 1) (v := 1) (by decide +kernel) (by decide +kernel) ?_
  refine pz_add (by decide +kernel) rfl kz_1 (by omega) (by omega) (fun z1 hz1 => ?_)
  refine pz_ialdX (n := xs.length) (by decide +kernel) (show pg_X xs 0 = some (0, xs, 0) from rfl) rfl hz1 (by omega) (by omega) (fun v2 ev2 => ?_)
  clear hz1
  refine pe_aloadX_n (j := 0) (by decide +kernel) rfl ?_
  refine pe_iload_n (j := 3) (by decide +kernel) rfl ?_
  refine pe_iconstv (n := 2) (v := 2) (by decide +kernel) (by decide +kernel) ?_
  refine pz_add (by decide +kernel) rfl kz_2 (by omega) (by omega) (fun z3 hz3 => ?_)
  refine pz_ialdX (n := xs.length) (by decide +kernel) (show pg_X xs 0 = some (0, xs, 0) from rfl) rfl hz3 (by omega) (by omega) (fun v4 ev4 => ?_)
  clear hz3
  refine pe_aloadX_n (j := 0) (by decide +kernel) rfl ?_
  refine pe_iload_n (j := 3) (by decide +kernel) rfl ?_
  refine pe_iconstv (n := 3) (v := 3) (by decide +kernel) (by decide +kernel) ?_
  refine pz_add (by decide +kernel) rfl kz_3 (by omega) (by omega) (fun z5 hz5 => ?_)
  refine pz_ialdX (n := xs.length) (by decide +kernel) (show pg_X xs 0 = some (0, xs, 0) from rfl) rfl hz5 (by omega) (by omega) (fun v6 ev6 => ?_)
  clear hz5
  refine pz_callV (j := 45) (mj := 66) (by decide +kernel) (cll_V (args := [.int v6, .int v4, .int v2]) (n := 3) (by decide +kernel) rfl rfl cd_o0 (by decide +kernel) (Nat.le_of_ble_eq_true rfl) (Nat.le_of_ble_eq_true rfl)) (CM_66 st_XO hC) (fun q7a q7b q7c q7d hqq7 => ?_)
  obtain ⟨rq7, eq7, kq7⟩ := hqq7
  cases eq7
  refine ⟨rfl, rfl, ?_⟩
  show pmE pg (pg_X xs) pg_tyl pg_cl 41 318 496 [.retAddr 0, .ref 0, .ref 147, .int x3] [.int rq7] (cd f A R (em g B)) _
  refine pe_pop (by decide +kernel) rfl ?_
  refine pe_aload_n (j := 2) (by decide +kernel) rfl ?_
  refine pe_aloadX_n (j := 0) (by decide +kernel) rfl ?_
  refine pe_iload_n (j := 3) (by decide +kernel) rfl ?_
  refine pe_iconstv (n := 1) (v := 1) (by decide +kernel) (by decide +kernel) ?_
  refine pz_add (by decide +kernel) rfl kz_1 (by omega) (by omega) (fun z8 hz8 => ?_)
  refine pz_ialdX (n := xs.length) (by decide +kernel) (show pg_X xs 0 = some (0, xs, 0) from rfl) rfl hz8 (by omega) (by omega) (fun v9 ev9 => ?_)
  clear hz8
  refine pe_aloadX_n (j := 0) (by decide +kernel) rfl ?_
  refine pe_iload_n (j := 3) (by decide +kernel) rfl ?_
  refine pe_iconstv (n := 2) (v := 2) (by decide +kernel) (by decide +kernel) ?_
  refine pz_add (by decide +kernel) rfl kz_2 (by omega) (by omega) (fun z10 hz10 => ?_)
  refine pz_ialdX (n := xs.length) (by decide +kernel) (show pg_X xs 0 = some (0, xs, 0) from rfl) rfl hz10 (by omega) (by omega) (fun v11 ev11 => ?_)
  clear hz10
  refine pe_aloadX_n (j := 0) (by decide +kernel) rfl ?_
  refine pe_iload_n (j := 3) (by decide +kernel) rfl ?_
  refine pe_iconstv (n := 3) (v := 3) (by decide +kernel) (by decide +kernel) ?_
  refine pz_add (by decide +kernel) rfl kz_3 (by omega) (by omega) (fun z12 hz12 => ?_)
  refine pz_ialdX (n := xs.length) (by decide +kernel) (show pg_X xs 0 = some (0, xs, 0) from rfl) rfl hz12 (by omega) (by omega) (fun v13 ev13 => ?_)
  clear hz12
  show pmE pg (pg_X xs) pg_tyl pg_cl 41 318 513 [.retAddr 0, .ref 0, .ref 147, .int x3] [.int v13, .int v11, .int v9, .ref 147] (md (cc f A R) g B) _
  refine pz_callV (j := 48) (mj := 225) (by decide +kernel) (cll_V (args := [.int v13, .int v11, .int v9]) (n := 3) (by decide +kernel) rfl rfl (md_o cc_len) (by decide +kernel) (Nat.le_of_ble_eq_true rfl) (Nat.le_of_ble_eq_true rfl)) (MM_225 cc_len hM) (fun q14a q14b q14c q14d hqq14 => ?_)
  obtain ⟨rq14, eq14, kq14⟩ := hqq14
  cases eq14
  refine ⟨rfl, rfl, ?_⟩
  show pmE pg (pg_X xs) pg_tyl pg_cl 41 318 516 [.retAddr 0, .ref 0, .ref 147, .int x3] [.int rq14] (cd f A R (em g B)) _
  refine pe_pop (by decide +kernel) rfl ?_
  refine pe_goto (off := 1959) (t := 2476) (by decide +kernel) (by decide) rfl ?_
  exact kk _ _ _ _ _ ⟨hC, hM, (RL4_fr hC hM (fun _ _ => rfl) (fun _ _ => rfl) rfl rfl hR)⟩
set_option maxRecDepth 100000 in
set_option maxHeartbeats 8000000 in
theorem LC_8 {xs : List Int32} {Q : pm_R → Prop} {f : Nat → Int32} {A : Nat → List Int32} {R : Nat → Value} {g : Nat → Int32} {B : Nat → List Int32} {x3 : Int32} (h3 : 0 ≤ x3.toInt) (h4 : x3.toInt + 7 ≤ xs.length) (hl : xs.length ≤ 3584) (hS : ST f A R g B) (kk : ∀ (f' : Nat → Int32) (A' : Nat → List Int32) (R' : Nat → Value) (g' : Nat → Int32) (B' : Nat → List Int32), ST f' A' R' g' B' → pmE pg (pg_X xs) pg_tyl pg_cl 41 318 2476 [.retAddr 0, .ref 0, .ref 147, .int x3] [] (cd f' A' R' (em g' B')) Q) : pmE pg (pg_X xs) pg_tyl pg_cl 41 318 520 [.retAddr 0, .ref 0, .ref 147, .int x3] [] (cd f A R (em g B)) Q := by
  obtain ⟨hC, hM, hR⟩ := hS
  refine pe_aload_n (j := 1) (by decide +kernel) rfl ?_
  refine pe_aloadX_n (j := 0) (by decide +kernel) rfl ?_
  refine pe_iload_n (j := 3) (by decide +kernel) rfl ?_
  refine pe_iconstv (n := 1) (v := 1) (by decide +kernel) (by decide +kernel) ?_
  refine pz_add (by decide +kernel) rfl kz_1 (by omega) (by omega) (fun z1 hz1 => ?_)
  refine pz_ialdX (n := xs.length) (by decide +kernel) (show pg_X xs 0 = some (0, xs, 0) from rfl) rfl hz1 (by omega) (by omega) (fun v2 ev2 => ?_)
  clear hz1
  refine pe_aloadX_n (j := 0) (by decide +kernel) rfl ?_
  refine pe_iload_n (j := 3) (by decide +kernel) rfl ?_
  refine pe_iconstv (n := 2) (v := 2) (by decide +kernel) (by decide +kernel) ?_
  refine pz_add (by decide +kernel) rfl kz_2 (by omega) (by omega) (fun z3 hz3 => ?_)
  refine pz_ialdX (n := xs.length) (by decide +kernel) (show pg_X xs 0 = some (0, xs, 0) from rfl) rfl hz3 (by omega) (by omega) (fun v4 ev4 => ?_)
  clear hz3
  refine pz_callV (j := 49) (mj := 73) (by decide +kernel) (cll_V (args := [.int v4, .int v2]) (n := 2) (by decide +kernel) rfl rfl cd_o0 (by decide +kernel) (Nat.le_of_ble_eq_true rfl) (Nat.le_of_ble_eq_true rfl)) (CM_73 st_XO hC) (fun q5a q5b q5c q5d hqq5 => ?_)
  obtain ⟨f6, A7, R8, rq5, eq5, hIq5, hGq5, hFq5, hHq5, kq5⟩ := hqq5
  cases eq5
  refine ⟨rfl, rfl, ?_⟩
  show pmE pg (pg_X xs) pg_tyl pg_cl 41 318 534 [.retAddr 0, .ref 0, .ref 147, .int x3] [.int rq5] (cd f6 A7 R8 (em g B)) _
  refine pe_pop (by decide +kernel) rfl ?_
  refine pe_aload_n (j := 2) (by decide +kernel) rfl ?_
  refine pe_aloadX_n (j := 0) (by decide +kernel) rfl ?_
  refine pe_iload_n (j := 3) (by decide +kernel) rfl ?_
  refine pe_iconstv (n := 1) (v := 1) (by decide +kernel) (by decide +kernel) ?_
  refine pz_add (by decide +kernel) rfl kz_1 (by omega) (by omega) (fun z9 hz9 => ?_)
  refine pz_ialdX (n := xs.length) (by decide +kernel) (show pg_X xs 0 = some (0, xs, 0) from rfl) rfl hz9 (by omega) (by omega) (fun v10 ev10 => ?_)
  clear hz9
  refine pe_aloadX_n (j := 0) (by decide +kernel) rfl ?_
  refine pe_iload_n (j := 3) (by decide +kernel) rfl ?_
  refine pe_iconstv (n := 2) (v := 2) (by decide +kernel) (by decide +kernel) ?_
  refine pz_add (by decide +kernel) rfl kz_2 (by omega) (by omega) (fun z11 hz11 => ?_)
  refine pz_ialdX (n := xs.length) (by decide +kernel) (show pg_X xs 0 = some (0, xs, 0) from rfl) rfl hz11 (by omega) (by omega) (fun v12 ev12 => ?_)
  clear hz11
  show pmE pg (pg_X xs) pg_tyl pg_cl 41 318 546 [.retAddr 0, .ref 0, .ref 147, .int x3] [.int v12, .int v10, .ref 147] (md (cc f6 A7 R8) g B) _
  refine pz_callV (j := 52) (mj := 226) (by decide +kernel) (cll_V (args := [.int v12, .int v10]) (n := 2) (by decide +kernel) rfl rfl (md_o cc_len) (by decide +kernel) (Nat.le_of_ble_eq_true rfl) (Nat.le_of_ble_eq_true rfl)) (MM_226 cc_len hM) (fun q13a q13b q13c q13d hqq13 => ?_)
  obtain ⟨g14, B15, rq13, eq13, hIq13, hGq13, hFq13, kq13⟩ := hqq13
  cases eq13
  refine ⟨rfl, rfl, ?_⟩
  show pmE pg (pg_X xs) pg_tyl pg_cl 41 318 549 [.retAddr 0, .ref 0, .ref 147, .int x3] [.int rq13] (cd f6 A7 R8 (em g14 B15)) _
  refine pe_pop (by decide +kernel) rfl ?_
  refine pe_goto (off := 1926) (t := 2476) (by decide +kernel) (by decide) rfl ?_
  exact kk _ _ _ _ _ ⟨hIq5, hIq13, (RL4_fr hIq5 hIq13 (fun n hn => hGq5 n (tn hn (by decide)) (tn hn (by decide))) (fun n hn => hFq5 n (tn hn (by decide)) (tn hn (by decide)) (tn hn (by decide))) (hFq13 148 (by decide) (by decide)) (hFq13 149 (by decide) (by decide)) hR)⟩
set_option maxRecDepth 100000 in
set_option maxHeartbeats 8000000 in
theorem LC_9 {xs : List Int32} {Q : pm_R → Prop} {f : Nat → Int32} {A : Nat → List Int32} {R : Nat → Value} {g : Nat → Int32} {B : Nat → List Int32} {x3 : Int32} (h3 : 0 ≤ x3.toInt) (h4 : x3.toInt + 7 ≤ xs.length) (hl : xs.length ≤ 3584) (hS : ST f A R g B) (kk : ∀ (f' : Nat → Int32) (A' : Nat → List Int32) (R' : Nat → Value) (g' : Nat → Int32) (B' : Nat → List Int32), ST f' A' R' g' B' → pmE pg (pg_X xs) pg_tyl pg_cl 41 318 2476 [.retAddr 0, .ref 0, .ref 147, .int x3] [] (cd f' A' R' (em g' B')) Q) : pmE pg (pg_X xs) pg_tyl pg_cl 41 318 553 [.retAddr 0, .ref 0, .ref 147, .int x3] [] (cd f A R (em g B)) Q := by
  obtain ⟨hC, hM, hR⟩ := hS
  refine pe_aload_n (j := 1) (by decide +kernel) rfl ?_
  refine pe_aloadX_n (j := 0) (by decide +kernel) rfl ?_
  refine pe_iload_n (j := 3) (by decide +kernel) rfl ?_
  refine pe_iconstv (n := 1) (v := 1) (by decide +kernel) (by decide +kernel) ?_
  refine pz_add (by decide +kernel) rfl kz_1 (by omega) (by omega) (fun z1 hz1 => ?_)
  refine pz_ialdX (n := xs.length) (by decide +kernel) (show pg_X xs 0 = some (0, xs, 0) from rfl) rfl hz1 (by omega) (by omega) (fun v2 ev2 => ?_)
  clear hz1
  refine pe_aloadX_n (j := 0) (by decide +kernel) rfl ?_
  refine pe_iload_n (j := 3) (by decide +kernel) rfl ?_
  refine pe_iconstv (n := 2) (v := 2) (by decide +kernel) (by decide +kernel) ?_
  refine pz_add (by decide +kernel) rfl kz_2 (by omega) (by omega) (fun z3 hz3 => ?_)
  refine pz_ialdX (n := xs.length) (by decide +kernel) (show pg_X xs 0 = some (0, xs, 0) from rfl) rfl hz3 (by omega) (by omega) (fun v4 ev4 => ?_)
  clear hz3
  refine pz_callV (j := 53) (mj := 91) (by decide +kernel) (cll_V (args := [.int v4, .int v2]) (n := 2) (by decide +kernel) rfl rfl cd_o0 (by decide +kernel) (Nat.le_of_ble_eq_true rfl) (Nat.le_of_ble_eq_true rfl)) ((pmE_PS (CM_91 st_XO hC))) (fun q5a q5b q5c q5d hqq5 => ?_)
  obtain ⟨⟨f6, A7, R8, rq5, eq5, hIq5, hGq5, hFq5, hHq5, kq5⟩, kpq5⟩ := hqq5
  cases eq5
  refine ⟨rfl, rfl, ?_⟩
  show pmE pg (pg_X xs) pg_tyl pg_cl 41 318 567 [.retAddr 0, .ref 0, .ref 147, .int x3] [.int rq5] (cd f6 A7 R8 (em g B)) _
  refine pe_aload_n (j := 2) (by decide +kernel) rfl ?_
  refine pe_aloadX_n (j := 0) (by decide +kernel) rfl ?_
  refine pe_iload_n (j := 3) (by decide +kernel) rfl ?_
  refine pe_iconstv (n := 1) (v := 1) (by decide +kernel) (by decide +kernel) ?_
  refine pz_add (by decide +kernel) rfl kz_1 (by omega) (by omega) (fun z9 hz9 => ?_)
  refine pz_ialdX (n := xs.length) (by decide +kernel) (show pg_X xs 0 = some (0, xs, 0) from rfl) rfl hz9 (by omega) (by omega) (fun v10 ev10 => ?_)
  clear hz9
  refine pe_aloadX_n (j := 0) (by decide +kernel) rfl ?_
  refine pe_iload_n (j := 3) (by decide +kernel) rfl ?_
  refine pe_iconstv (n := 2) (v := 2) (by decide +kernel) (by decide +kernel) ?_
  refine pz_add (by decide +kernel) rfl kz_2 (by omega) (by omega) (fun z11 hz11 => ?_)
  refine pz_ialdX (n := xs.length) (by decide +kernel) (show pg_X xs 0 = some (0, xs, 0) from rfl) rfl hz11 (by omega) (by omega) (fun v12 ev12 => ?_)
  clear hz11
  show pmE pg (pg_X xs) pg_tyl pg_cl 41 318 578 [.retAddr 0, .ref 0, .ref 147, .int x3] [.int v12, .int v10, .ref 147, .int rq5] (md (cc f6 A7 R8) g B) _
  refine pz_callV (j := 56) (mj := 243) (by decide +kernel) (cll_V (args := [.int v12, .int v10]) (n := 2) (by decide +kernel) rfl rfl (md_o cc_len) (by decide +kernel) (Nat.le_of_ble_eq_true rfl) (Nat.le_of_ble_eq_true rfl)) ((pmE_PS (MM_243 cc_len hM))) (fun q13a q13b q13c q13d hqq13 => ?_)
  obtain ⟨⟨g14, B15, rq13, eq13, hIq13, hGq13, hFq13, kq13⟩, kpq13⟩ := hqq13
  cases eq13
  refine ⟨rfl, rfl, ?_⟩
  show pmE pg (pg_X xs) pg_tyl pg_cl 41 318 581 [.retAddr 0, .ref 0, .ref 147, .int x3] [.int rq13, .int rq5] (cd f6 A7 R8 (em g14 B15)) _
  obtain ⟨kA, psA⟩ := kpq5
  obtain ⟨kB, psB⟩ := kpq13
  have psA : PS (pg_X xs) kA 91 0 [.ref 0, .int v2, .int v4, pm_dead, pm_dead, pm_dead] [] (cd f A R (em g B)) (some (.int rq5)) (cd f6 A7 R8 (em g B)) := psA
  have psB : PS (pg_X xs) kB 243 0 [.ref 147, .int v10, .int v12, pm_dead] [] (cd f6 A7 R8 (em g B)) (some (.int rq13)) (cd f6 A7 R8 (em g14 B15)) := psB
  rw [show v10 = v2 from ev10.trans ev2.symm] at psB
  rw [show v12 = v4 from ev12.trans ev4.symm] at psB
  have hre := RC_9 hR.1 psA psB
  have heq : rq5.toInt = rq13.toInt := by
    injection hre with h
    injection h with h
    rw [h]
  refine pz_icmp_eq (off := 1895) (t := 2476) (by decide +kernel) (by decide) rfl rfl rfl (fun _ => ?_) (fun hne => absurd heq hne)
  exact kk _ _ _ _ _ ⟨hIq5, hIq13, (RL4_fr hIq5 hIq13 (fun n hn => hGq5 n (tn hn (by decide)) (tn hn (by decide))) (fun n hn => hFq5 n (tn hn (by decide)) (tn hn (by decide)) (tn hn (by decide))) (hFq13 148 (by decide) (by decide)) (hFq13 149 (by decide) (by decide)) hR)⟩
