/-! ===== the law's start, what holds between two calls ===== -/
def st_f (n : Nat) : Int32 := cond (List.elem n [80, 160, 384, 544, 752, 912, 1104, 1456, 1536, 1776, 1856, 2096, 2176]) 4 (cond (List.elem n [23, 1399, 1719, 2039]) (-1) 0)
def st_k (k : Nat) : Nat := (ltab.lookup k).getD 0
def st_A (k : Nat) : List Int32 := List.replicate (st_k k) 0
def st_R : Nat → Value
  | 0 => .ref 34
  | 1 => .ref 47
  | 2 => .ref 56
  | 3 => .ref 69
  | 4 => .ref 32
  | _ => .long 0
def st_g : Nat → Int32
  | 31 => -1
  | 32 => -1
  | _ => 0
def st_arr : pm_E → List Int32
  | .inl (_, .inl xs) => xs
  | _ => []
def st_B148 : List Int32 := st_arr (fw_2.getD 1 (.inr (0, [])))
def st_B (k : Nat) : List Int32 := cond (Nat.beq k 148) st_B148 (List.replicate (ml k) 0)
set_option maxRecDepth 1000000 in
theorem st_w : fw_0 = cd st_f st_A st_R (em st_g st_B) := fw_eqW_ok _ _ (by decide +kernel)
theorem rep_0 {n i : Nat} : (List.replicate n (0 : Int32)).getD i 0 = 0 := by
  rw [List.getD_eq_getElem?_getD, List.getElem?_replicate]
  split <;> rfl
theorem ct_0 (kd i : Nat) : CT kd i 0 := by
  unfold CT
  split <;> first | trivial | omega
set_option maxRecDepth 1000000 in
theorem st_CI : CI st_f st_A st_R := by
  refine ⟨fun p hp => ?_, fun p hp => ?_, fun p hp i => ?_, ⟨0, rfl⟩, fun i hi => ?_⟩
  · have h : ctab.all (fun p => decide (p.2.1 ≤ (st_f p.1).toInt) && decide ((st_f p.1).toInt ≤ p.2.2)) = true := by decide +kernel
    have q := List.all_eq_true.mp h p hp
    simp only [Bool.and_eq_true, decide_eq_true_eq] at q
    exact q
  · have h : ltab.all (fun p => Nat.beq (st_k p.1) p.2) = true := by decide +kernel
    have q := Nat.eq_of_beq_eq_true (List.all_eq_true.mp h p hp)
    unfold st_A
    rw [List.length_replicate]
    exact q
  · unfold st_A
    rw [rep_0]
    exact ct_0 p.2 i
  · match i, hi with
    | 0, _ => exact ⟨_, rfl⟩
    | 1, _ => exact ⟨_, rfl⟩
    | 2, _ => exact ⟨_, rfl⟩
    | 3, _ => exact ⟨_, rfl⟩
    | 4, _ => exact ⟨_, rfl⟩
    | i + 5, h => omega
set_option maxRecDepth 1000000 in
theorem st_z (j : Nat) (hj : j ≠ 4) : st_B148.getD j 0 = 0 := by
  have h : (st_B148.set 4 0).all (fun x => decide (x = 0)) = true := by decide +kernel
  have q : ∀ ys : List Int32, ys.all (fun x => decide (x = 0)) = true → ys.getD j 0 = 0 := by
    intro ys hy
    rw [List.getD_eq_getElem?_getD]
    cases e : ys[j]? with
    | none => rfl
    | some y =>
      have m := List.mem_of_getElem? e
      have z := List.all_eq_true.mp hy y m
      show y = 0
      exact of_decide_eq_true z
  have z := q _ h
  rw [gz_ne (Ne.symm hj)] at z
  exact z
theorem st_B8 : st_B 148 = st_B148 := rfl
theorem st_Bn {k : Nat} (h : k ≠ 148) : st_B k = List.replicate (ml k) 0 := by
  unfold st_B
  cases hb : Nat.beq k 148 with
  | false => rfl
  | true => exact absurd (Nat.eq_of_beq_eq_true hb) h
set_option maxRecDepth 1000000 in
theorem st_MI : MI st_g st_B := by
  refine ⟨fun j => ?_, fun k h1 h2 => ?_, fun c i hc hi => ?_, fun k i => ?_, fun c a b c0 c1 a0 b0 => ?_, fun c a w c1 a1 hw => ?_⟩
  · unfold MF
    split <;> first | trivial | decide +kernel
  · have h : (List.range' 148 19).all (fun k => Nat.beq (st_B k).length (ml k)) = true := by decide +kernel
    exact Nat.eq_of_beq_eq_true (List.all_eq_true.mp h k (by rw [List.mem_range'_1]; omega))
  · by_cases e : 1690 * c + i = 4
    · have ei : i = 4 := by omega
      subst ei
      generalize ((st_B 148).getD (1690 * c + 4) 0).toInt = x
      unfold MT
      omega
    · rw [st_B8, st_z _ e]
      show MT i 0
      unfold MT
      omega
  · by_cases e : k = 148
    · subst e
      exact trivial
    · rw [st_Bn e, rep_0]
      show MP k i 0
      unfold MP
      split <;> first | trivial | (simp only [MP_rings, MP_ringsThen, MP_round, MP_bestRound, MP_from0, MP_has]; omega)
  · rw [st_B8, st_z _ (by omega), st_z _ (by omega), st_z _ (by omega)]
    show MRA 0 0 0
    unfold MRA
    omega
  · rw [st_B8, st_z _ (by omega)] at hw
    have hw2 : (w : Int) < 0 := hw
    omega
set_option maxRecDepth 100000 in
theorem cc_len {f : Nat → Int32} {A : Nat → List Int32} {R : Nat → Value} : (cc f A R).length = 147 := rfl
theorem st_XO {xs : List Int32} : XO (pg_X xs) := by
  intro j hj
  unfold pg_X
  cases hb : Nat.beq j 0 with
  | false => rfl
  | true => exact absurd (Nat.eq_of_beq_eq_true hb) (by omega)
theorem pe_pop2 {G : pm_G} {X : pm_X} {tyl : List FieldType} {cl : List vw_C} {d mi pc : Nat} {ls st : List Value} {w : pm_W} {Q : pm_R → Prop} {a : Value} (hd : pm_dec G mi pc = some (.pop2)) (h : a.category = 2) (k : pmE G X tyl cl d mi (pc + 1) ls st w Q) : pmE G X tyl cl d mi pc ls (a :: st) w Q := pmE.one hd (by simp only [pm_one, if_pos h]) k
/-! what is told is alike, across calls that leave it alone -/
theorem TE_fm2 {w w' : pm_W} {T : Nat} {a : Nat → Int32} (hS : SK w) (hS' : SK w') (ok1 : okV (T + 4) = true) (ok2 : okV (T + 9) = true) (h : TE w T a) (hf : ∀ p, p ∈ tFs T → gI w' p.1 p.2 = gI w p.1 p.2) (ha : ∀ x, x ∈ tAs T → gA w' x = gA w x) : TE w' T a := by
  obtain ⟨⟨r1, r2, r3, r4, r5, r6, r7⟩, t1, t2, t3, t4, t5, t6, t7, t8⟩ := h
  refine ⟨⟨r1, r2, r3, r4, r5, r6, r7⟩, ?_, ?_, ?_, ?_, ?_, fun j hj => ?_, fun u hu k hk => ?_, fun u hu => ?_⟩
  · exact (hf (T, 2) (by simp [tFs])).trans t1
  · exact (hf (T, 3) (by simp [tFs])).trans t2
  · exact (hf (T, 5) (by simp [tFs])).trans t3
  · exact (hf (T, 6) (by simp [tFs])).trans t4
  · exact (hf (T, 7) (by simp [tFs])).trans t5
  · rw [ha (T + 3) (by simp [tAs])]; exact t6 j hj
  · rw [← t7 u hu k hk]
    have c : u = 0 ∨ u = 1 := by omega
    rcases c with rfl | rfl
    · show vcl w' (T + 4) k = vcl w (T + 4) k
      rw [vcl_ok hS ok1, vcl_ok hS' ok1, hf (T + 4, 0) (by simp [tFs]), hf (T + 4, 1) (by simp [tFs]), hf (T + 4, 2) (by simp [tFs]), ha (T + 4 + 1) (by simp [tAs]), ha (T + 4 + 2) (by simp [tAs]), ha (T + 4 + 3) (by simp [tAs]), ha (T + 4 + 4) (by simp [tAs])]
    · show vcl w' (T + 9) k = vcl w (T + 9) k
      rw [vcl_ok hS ok2, vcl_ok hS' ok2, hf (T + 9, 0) (by simp [tFs]), hf (T + 9, 1) (by simp [tFs]), hf (T + 9, 2) (by simp [tFs]), ha (T + 9 + 1) (by simp [tAs]), ha (T + 9 + 2) (by simp [tAs]), ha (T + 9 + 3) (by simp [tAs]), ha (T + 9 + 4) (by simp [tAs])]
  · obtain ⟨y1, y2⟩ := t8 u hu
    have c : u = 0 ∨ u = 1 ∨ u = 2 := by omega
    refine ⟨?_, fun q hq => ?_⟩
    · rw [← y1]
      rcases c with rfl | rfl | rfl
      · exact hf (T + 14, 0) (by simp [tFs])
      · exact hf (T + 16, 0) (by simp [tFs])
      · exact hf (T + 18, 0) (by simp [tFs])
    · rw [← y2 q hq]
      rcases c with rfl | rfl | rfl
      · rw [ha (T + 15 + 2 * 0) (by simp [tAs])]
      · rw [ha (T + 15 + 2 * 1) (by simp [tAs])]
      · rw [ha (T + 15 + 2 * 2) (by simp [tAs])]
def tolP : List (Nat × Nat) := [(1, 2), (1, 3), (1, 5), (1, 6), (1, 7), (5, 0), (5, 1), (5, 2), (10, 0), (10, 1), (10, 2), (15, 0), (17, 0), (19, 0), (87, 2), (87, 3), (87, 5), (87, 6), (87, 7), (91, 0), (91, 1), (91, 2), (96, 0), (96, 1), (96, 2), (101, 0), (103, 0), (105, 0), (107, 2), (107, 3), (107, 5), (107, 6), (107, 7), (111, 0), (111, 1), (111, 2), (116, 0), (116, 1), (116, 2), (121, 0), (123, 0), (125, 0), (127, 2), (127, 3), (127, 5), (127, 6), (127, 7), (131, 0), (131, 1), (131, 2), (136, 0), (136, 1), (136, 2), (141, 0), (143, 0), (145, 0)]
def tolF : List Nat := [18, 19, 21, 22, 23, 80, 81, 82, 160, 161, 162, 240, 272, 304, 1394, 1395, 1397, 1398, 1399, 1456, 1457, 1458, 1536, 1537, 1538, 1616, 1648, 1680, 1714, 1715, 1717, 1718, 1719, 1776, 1777, 1778, 1856, 1857, 1858, 1936, 1968, 2000, 2034, 2035, 2037, 2038, 2039, 2096, 2097, 2098, 2176, 2177, 2178, 2256, 2288, 2320]
def tolA : List Nat := [4, 6, 7, 8, 9, 11, 12, 13, 14, 16, 18, 20, 90, 92, 93, 94, 95, 97, 98, 99, 100, 102, 104, 106, 110, 112, 113, 114, 115, 117, 118, 119, 120, 122, 124, 126, 130, 132, 133, 134, 135, 137, 138, 139, 140, 142, 144, 146, 22]
theorem tn {L : List Nat} {n m : Nat} (h : n ∈ L) (h2 : m ∉ L) : n ≠ m := fun e => h2 (e ▸ h)
set_option maxRecDepth 1000000 in
theorem gI_cd {f : Nat → Int32} {A : Nat → List Int32} {R : Nat → Value} {wr : pm_W} : ∀ p, p ∈ tolP → gI (cd f A R wr) p.1 p.2 = f (16 * p.1 + p.2) := by
  unfold tolP
  simp only [List.forall_mem_cons]
  exact ⟨rfl, rfl, rfl, rfl, rfl, rfl, rfl, rfl, rfl, rfl, rfl, rfl, rfl, rfl, rfl, rfl, rfl, rfl, rfl, rfl, rfl, rfl, rfl, rfl, rfl, rfl, rfl, rfl, rfl, rfl, rfl, rfl, rfl, rfl, rfl, rfl, rfl, rfl, rfl, rfl, rfl, rfl, rfl, rfl, rfl, rfl, rfl, rfl, rfl, rfl, rfl, rfl, rfl, rfl, rfl, rfl, fun _ h => by cases h⟩
set_option maxRecDepth 1000000 in
theorem gA_cd {f : Nat → Int32} {A : Nat → List Int32} {R : Nat → Value} {wr : pm_W} : ∀ x, x ∈ tolA → gA (cd f A R wr) x = A x := by
  unfold tolA
  simp only [List.forall_mem_cons]
  exact ⟨rfl, rfl, rfl, rfl, rfl, rfl, rfl, rfl, rfl, rfl, rfl, rfl, rfl, rfl, rfl, rfl, rfl, rfl, rfl, rfl, rfl, rfl, rfl, rfl, rfl, rfl, rfl, rfl, rfl, rfl, rfl, rfl, rfl, rfl, rfl, rfl, rfl, rfl, rfl, rfl, rfl, rfl, rfl, rfl, rfl, rfl, rfl, rfl, rfl, fun _ h => by cases h⟩
theorem tol_F {p : Nat × Nat} (h : p ∈ tolP) : 16 * p.1 + p.2 ∈ tolF := by
  have e : tolF = tolP.map (fun p => 16 * p.1 + p.2) := by decide +kernel
  rw [e]
  exact List.mem_map_of_mem h
theorem tF_P {T : Nat} (hT : T = 1 ∨ T = 87 ∨ T = 107 ∨ T = 127) {p : Nat × Nat} (h : p ∈ tFs T) : p ∈ tolP := by
  have e : ∀ T : Nat, (tFs T).all (fun p => tolP.contains p) = true → ∀ p, p ∈ tFs T → p ∈ tolP := by
    intro T h p hp
    have q := List.all_eq_true.mp h p hp
    exact List.elem_iff.mp q
  rcases hT with rfl | rfl | rfl | rfl
  · exact e 1 (by decide +kernel) p h
  · exact e 87 (by decide +kernel) p h
  · exact e 107 (by decide +kernel) p h
  · exact e 127 (by decide +kernel) p h
theorem tA_A {T : Nat} (hT : T = 1 ∨ T = 87 ∨ T = 107 ∨ T = 127) {x : Nat} (h : x ∈ tAs T) : x ∈ tolA := by
  have e : ∀ T : Nat, (tAs T).all (fun p => tolA.contains p) = true → ∀ p, p ∈ tAs T → p ∈ tolA := by
    intro T h p hp
    have q := List.all_eq_true.mp h p hp
    exact List.elem_iff.mp q
  rcases hT with rfl | rfl | rfl | rfl
  · exact e 1 (by decide +kernel) x h
  · exact e 87 (by decide +kernel) x h
  · exact e 107 (by decide +kernel) x h
  · exact e 127 (by decide +kernel) x h
theorem g148 {f g : Nat → Int32} {A B : Nat → List Int32} {R : Nat → Value} : gA (cd f A R (em g B)) 148 = B 148 := rfl
theorem g149 {f g : Nat → Int32} {A B : Nat → List Int32} {R : Nat → Value} : gA (cd f A R (em g B)) 149 = B 149 := rfl
theorem MTnw {f g : Nat → Int32} {A B : Nat → List Int32} {R : Nat → Value} (hM : MI g B) : MTn (cd f A R (em g B)) := by
  intro i hi
  have q := hM.2.2.1 0 i (by decide) hi
  rw [Nat.mul_zero, Nat.zero_add] at q
  exact q
theorem RL2_fr {f f' g g' : Nat → Int32} {A A' B B' : Nat → List Int32} {R R' : Nat → Value} (hC : CI f' A' R') (hM : MI g' B') (hf : ∀ n, n ∈ tolF → f' n = f n) (hA : ∀ k, k ∈ tolA → A' k = A k) (b8 : B' 148 = B 148) (b9 : B' 149 = B 149) (h : RL2 (cd f A R (em g B))) : RL2 (cd f' A' R' (em g' B')) := by
  obtain ⟨hS, hT, hI⟩ := h
  have hS' := SK_cd hC hM
  have hal : al (cd f' A' R' (em g' B')) = al (cd f A R (em g B)) := by
    funext q
    unfold al
    rw [g148, g148, b8]
  have hF : ∀ T, (T = 1 ∨ T = 87 ∨ T = 107 ∨ T = 127) → ∀ p, p ∈ tFs T → gI (cd f' A' R' (em g' B')) p.1 p.2 = gI (cd f A R (em g B)) p.1 p.2 := by
    intro T hT p hp
    have q := tF_P hT hp
    rw [gI_cd p q, gI_cd p q, hf _ (tol_F q)]
  have hG : ∀ T, (T = 1 ∨ T = 87 ∨ T = 107 ∨ T = 127) → ∀ x, x ∈ tAs T → gA (cd f' A' R' (em g' B')) x = gA (cd f A R (em g B)) x := by
    intro T hT x hx
    have q := tA_A hT hx
    rw [gA_cd x q, gA_cd x q, hA _ q]
  refine ⟨hS', ?_, fun k hk => ?_⟩
  · rw [hal]
    exact TE_fm2 hS hS' (by decide +kernel) (by decide +kernel) hT (hF 1 (Or.inl rfl)) (hG 1 (Or.inl rfl))
  · have e22 : gA (cd f' A' R' (em g' B')) 22 = gA (cd f A R (em g B)) 22 := by rw [gA_cd 22 (by decide), gA_cd 22 (by decide), hA 22 (by decide)]
    rw [e22, g149, b9, hal]
    obtain ⟨i1, i2⟩ := hI k hk
    rw [g149] at i1 i2
    refine ⟨i1, fun z => ?_⟩
    have hT : 87 + 20 * k = 1 ∨ 87 + 20 * k = 87 ∨ 87 + 20 * k = 107 ∨ 87 + 20 * k = 127 := by omega
    exact TE_fm2 hS hS' (okI hk).1 (okI hk).2 (i2 z) (hF _ hT) (hG _ hT)
theorem RL4_fr {f f' g g' : Nat → Int32} {A A' B B' : Nat → List Int32} {R R' : Nat → Value} (hC : CI f' A' R') (hM : MI g' B') (hf : ∀ n, n ∈ tolF → f' n = f n) (hA : ∀ k, k ∈ tolA → A' k = A k) (b8 : B' 148 = B 148) (b9 : B' 149 = B 149) (h : RL4 (cd f A R (em g B))) : RL4 (cd f' A' R' (em g' B')) := by
  have hal : al (cd f' A' R' (em g' B')) = al (cd f A R (em g B)) := by
    funext q
    unfold al
    rw [g148, g148, b8]
  exact ⟨⟨RL2_fr hC hM hf hA b8 b9 h.1.1, by rw [hal]; exact h.1.2⟩, VI_cg h.2 (by rw [g149, g149, b9]) (fun q _ => by rw [hal])⟩
/-- alike and valid, and the reference asks for no more room -/
def RL5 (w : pm_W) : Prop := RL4 w ∧ gI w 147 31 = -1 ∧ gI w 147 32 = -1
theorem g31 {f g : Nat → Int32} {A B : Nat → List Int32} {R : Nat → Value} : gI (cd f A R (em g B)) 147 31 = g 31 := rfl
theorem g32 {f g : Nat → Int32} {A B : Nat → List Int32} {R : Nat → Value} : gI (cd f A R (em g B)) 147 32 = g 32 := rfl
theorem RL5_t {f f' g g' : Nat → Int32} {A A' B B' : Nat → List Int32} {R R' : Nat → Value} (c1 : g' 31 = g 31) (c2 : g' 32 = g 32) (h4 : RL4 (cd f' A' R' (em g' B'))) (h : RL5 (cd f A R (em g B))) : RL5 (cd f' A' R' (em g' B')) := by
  obtain ⟨_, h1, h2⟩ := h
  rw [g31] at h1
  rw [g32] at h2
  exact ⟨h4, by rw [g31, c1]; exact h1, by rw [g32, c2]; exact h2⟩
def ST (f : Nat → Int32) (A : Nat → List Int32) (R : Nat → Value) (g : Nat → Int32) (B : Nat → List Int32) : Prop := CI f A R ∧ MI g B ∧ RL5 (cd f A R (em g B))
set_option maxRecDepth 1000000 in
theorem st_RL2 : RL2 (cd st_f st_A st_R (em st_g st_B)) := by
  have z : ∀ j : Nat, j ≠ 4 → al (cd st_f st_A st_R (em st_g st_B)) j = 0 := by
    intro j j4
    unfold al
    rw [g148, st_B8]
    exact st_z _ j4
  have z4 : al (cd st_f st_A st_R (em st_g st_B)) 4 = -1 := by
    unfold al
    rw [g148, st_B8]
    decide +kernel
  have F : ∀ p, p ∈ tolP → gI (cd st_f st_A st_R (em st_g st_B)) p.1 p.2 = st_f (16 * p.1 + p.2) := gI_cd
  refine ⟨SK_cd st_CI st_MI, ⟨⟨?_, ?_, ?_, ?_, ?_, ?_, fun u hu => ?_⟩, ?_, ?_, ?_, ?_, ?_, fun j hj => ?_, fun u hu => ?_, fun u hu => ?_⟩, fun k hk => ⟨?_, fun y => ?_⟩⟩
  · rw [z 0 (by decide)]; decide
  · rw [z 0 (by decide)]; decide
  · rw [z 1 (by decide)]; decide
  · rw [z 1 (by decide)]; decide
  · rw [z 2 (by decide)]; decide
  · rw [z 2 (by decide)]; decide
  · rw [z 1 (by decide)] at hu; exact absurd hu (by show ¬ u < 0; omega)
  · rw [z 0 (by decide), F (1, 2) (by decide)]; decide +kernel
  · rw [z 1 (by decide), F (1, 3) (by decide)]; decide +kernel
  · rw [z 2 (by decide), F (1, 5) (by decide)]; decide +kernel
  · rw [z 3 (by decide), F (1, 6) (by decide)]; decide +kernel
  · rw [z4, F (1, 7) (by decide)]; decide +kernel
  · rw [z 2 (by decide)] at hj; exact absurd hj (by show ¬ j < 0; omega)
  · rw [z 0 (by decide)] at hu; exact absurd hu (by show ¬ u < 0; omega)
  · rw [z 1 (by decide)] at hu; exact absurd hu (by show ¬ u < 0; omega)
  · rw [gA_cd 22 (by decide), g149, st_Bn (by decide)]
    unfold st_A
    rw [rep_0, rep_0]
  · rw [g149, st_Bn (by decide), rep_0] at y
    exact absurd rfl y
theorem st_RL4 : RL4 (cd st_f st_A st_R (em st_g st_B)) := by
  have z : ∀ j : Nat, j ≠ 4 → al (cd st_f st_A st_R (em st_g st_B)) j = 0 := by
    intro j j4
    unfold al
    rw [g148, st_B8]
    exact st_z _ j4
  refine ⟨⟨st_RL2, fun u hu => ?_, fun u hu => ?_⟩, fun k hk y => ?_⟩
  · rw [z 0 (by decide)] at hu; exact absurd hu (by show ¬ u < 0; omega)
  · rw [z 1 (by decide)] at hu; exact absurd hu (by show ¬ u < 0; omega)
  · rw [g149, st_Bn (by decide), rep_0] at y
    exact absurd rfl y
theorem st_ST : ST st_f st_A st_R st_g st_B := ⟨st_CI, st_MI, st_RL4, by rw [g31]; decide +kernel, by rw [g32]; decide +kernel⟩
theorem pmE_PS {X : pm_X} {d mi pc : Nat} {ls st : List Value} {w : pm_W} {Q : pm_R → Prop} (h : pmE pg X pg_tyl pg_cl d mi pc ls st w Q) : pmE pg X pg_tyl pg_cl d mi pc ls st w (fun q => Q q ∧ ∃ k, PS X k mi pc ls st w q.1 q.2.1) := by
  obtain ⟨f, ⟨r, w', c, n⟩, h1, h2⟩ := h
  exact ⟨f, _, h1, h2, f, d, c, n, h1⟩
