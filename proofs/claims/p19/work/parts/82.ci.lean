/-! ===== what always holds of the class's cells (printed by gc.py) ===== -/
def ctab : List (Nat × Int × Int) := [(18, 0, 2), (19, 0, 3), (21, 0, 600), (80, 0, 9), (82, 0, 7), (160, 0, 9), (162, 0, 7), (240, 0, 30), (272, 0, 30), (304, 0, 30), (372, 0, 600), (373, 0, 600), (374, 0, 4), (375, 0, 600), (384, 0, 9), (386, 0, 7), (464, 0, 30), (530, 0, 37), (544, 0, 9), (546, 0, 7), (738, 0, 37), (752, 0, 9), (754, 0, 7), (886, 0, 6), (898, 0, 37), (912, 0, 9), (914, 0, 7), (1095, 0, 128), (1104, 0, 9), (1106, 0, 7), (1394, 0, 2), (1395, 0, 3), (1397, 0, 600), (1456, 0, 9), (1458, 0, 7), (1536, 0, 9), (1538, 0, 7), (1616, 0, 30), (1648, 0, 30), (1680, 0, 30), (1714, 0, 2), (1715, 0, 3), (1717, 0, 600), (1776, 0, 9), (1778, 0, 7), (1856, 0, 9), (1858, 0, 7), (1936, 0, 30), (1968, 0, 30), (2000, 0, 30), (2034, 0, 2), (2035, 0, 3), (2037, 0, 600), (2096, 0, 9), (2098, 0, 7), (2176, 0, 9), (2178, 0, 7), (2256, 0, 30), (2288, 0, 30), (2320, 0, 30)]
def ltab : List (Nat × Nat) := [(4, 600), (6, 81), (7, 9), (8, 9), (9, 28), (11, 81), (12, 9), (13, 9), (14, 28), (16, 270), (18, 270), (20, 270), (22, 3), (25, 81), (26, 9), (27, 9), (28, 28), (30, 270), (31, 8), (32, 0), (35, 81), (36, 9), (37, 9), (38, 28), (39, 81), (40, 370), (41, 6), (43, 81), (44, 9), (45, 9), (48, 81), (49, 9), (50, 9), (51, 28), (52, 81), (53, 370), (54, 6), (58, 81), (59, 9), (60, 9), (61, 28), (62, 81), (63, 370), (64, 6), (65, 9), (66, 6), (67, 6), (70, 81), (71, 9), (72, 9), (73, 28), (74, 81), (75, 81), (76, 9), (77, 128), (78, 128), (80, 144), (81, 12), (82, 12), (84, 9), (86, 6), (90, 600), (92, 81), (93, 9), (94, 9), (95, 28), (97, 81), (98, 9), (99, 9), (100, 28), (102, 270), (104, 270), (106, 270), (110, 600), (112, 81), (113, 9), (114, 9), (115, 28), (117, 81), (118, 9), (119, 9), (120, 28), (122, 270), (124, 270), (126, 270), (130, 600), (132, 81), (133, 9), (134, 9), (135, 28), (137, 81), (138, 9), (139, 9), (140, 28), (142, 270), (144, 270), (146, 270)]
def ktab : List (Nat × Nat) := [(4, 7), (9, 0), (14, 0), (22, 6), (28, 0), (38, 0), (40, 1), (44, 2), (45, 3), (51, 0), (53, 1), (61, 0), (63, 1), (66, 2), (67, 2), (73, 0), (78, 6), (81, 4), (82, 5), (90, 7), (95, 0), (100, 0), (110, 7), (115, 0), (120, 0), (130, 7), (135, 0), (140, 0)]
def CT (kd i : Nat) (x : Int) : Prop := match kd with
  | 0 => i % 4 < 2 → 0 ≤ x ∧ x ≤ 8
  | 1 => (i % 10 = 0 → 0 ≤ x ∧ x ≤ 6) ∧ (4 ≤ i % 10 → 0 ≤ x ∧ x ≤ 8)
  | 2 => 0 ≤ x ∧ x ≤ 8
  | 3 => -1 ≤ x ∧ x ≤ 8
  | 4 => -1 ≤ x ∧ x ≤ 11
  | 5 => 0 ≤ x ∧ x ≤ 11
  | 6 => 0 ≤ x ∧ x ≤ 1
  | 7 => -128 ≤ x ∧ x ≤ 127
  | 8 => 0 ≤ x ∧ x ≤ 99
  | _ => True
def CI (f : Nat → Int32) (A : Nat → List Int32) (R : Nat → Value) : Prop := (∀ p ∈ ctab, p.2.1 ≤ (f p.1).toInt ∧ (f p.1).toInt ≤ p.2.2) ∧ (∀ p ∈ ltab, (A p.1).length = p.2) ∧ (∀ p ∈ ktab, ∀ i, CT p.2 i ((A p.1).getD i 0).toInt) ∧ (∃ l : Int64, R 5 = .long l) ∧ ∀ i : Nat, i ≤ 4 → ∃ b : Nat, R i = .ref b
theorem ci_put {f : Nat → Int32} {A : Nat → List Int32} {R : Nat → Value} {n : Nat} {x : Int32} (hI : CI f A R) (h : ∀ p ∈ ctab, p.1 = n → p.2.1 ≤ x.toInt ∧ x.toInt ≤ p.2.2) : CI (upf f n x) A R := by
  refine ⟨fun p hp => ?_, hI.2⟩
  by_cases e : p.1 = n
  · rw [e, upf_eq]
    exact h p hp e
  · rw [upf_ne e]
    exact hI.1 p hp
theorem ci_putR {f : Nat → Int32} {A : Nat → List Int32} {R : Nat → Value} {n : Nat} {x : Value} (hI : CI f A R) (h : (n ≠ 5 ∧ ∃ b : Nat, x = .ref b) ∨ (n = 5 ∧ ∃ l : Int64, x = .long l)) : CI f A (upr R n x) := by
  refine ⟨hI.1, hI.2.1, hI.2.2.1, ?_, fun i hi => ?_⟩
  · by_cases e : 5 = n
    · subst e
      rw [upr_eq]
      rcases h with h | h
      · exact absurd rfl h.1
      · exact h.2
    · rw [upr_ne e]
      exact hI.2.2.2.1
  · by_cases e : i = n
    · subst e
      rw [upr_eq]
      rcases h with h | h
      · exact h.2
      · omega
    · rw [upr_ne e]
      exact hI.2.2.2.2 i hi
theorem ci_arr {f : Nat → Int32} {A : Nat → List Int32} {R : Nat → Value} {k : Nat} {xs : List Int32} (hI : CI f A R) (hl : xs.length = (A k).length) (h : ∀ p ∈ ktab, p.1 = k → ∀ i, CT p.2 i (xs.getD i 0).toInt) : CI f (upa A k xs) R := by
  refine ⟨hI.1, fun p hp => ?_, fun p hp i => ?_, hI.2.2.2⟩
  · by_cases e : p.1 = k
    · rw [e, upa_eq, hl, ← e]
      exact hI.2.1 p hp
    · rw [upa_ne e]
      exact hI.2.1 p hp
  · by_cases e : p.1 = k
    · rw [e, upa_eq]
      exact h p hp e i
    · rw [upa_ne e]
      exact hI.2.2.1 p hp i
theorem ci_st {f : Nat → Int32} {A : Nat → List Int32} {R : Nat → Value} {k i : Nat} {v : Int32} (hI : CI f A R) (hi : i < (A k).length) (h : ∀ p ∈ ktab, p.1 = k → CT p.2 i v.toInt) : CI f (upa A k ((A k).set i v)) R := by
  refine ci_arr hI (by rw [List.length_set]) (fun p hp e j => ?_)
  by_cases e2 : i = j
  · subst e2
    rw [gz_eq hi]
    exact h p hp e
  · rw [gz_ne e2, ← e]
    exact hI.2.2.1 p hp j
theorem ct_no {k : Nat} (h : ktab.all (fun p => !(p.1 == k)) = true) {P : Nat × Nat → Prop} : ∀ p ∈ ktab, p.1 = k → P p := by
  intro p hp e
  have h2 := List.all_eq_true.mp h p hp
  rw [e] at h2
  simp at h2
theorem ct_one {k kd : Nat} (h : ktab.all (fun p => !(p.1 == k) || p.2 == kd) = true) {P : Nat → Prop} (hk : P kd) : ∀ p ∈ ktab, p.1 = k → P p.2 := by
  intro p hp e
  have h2 := List.all_eq_true.mp h p hp
  rw [e] at h2
  simp at h2
  rw [h2]
  exact hk
theorem cf_no {k : Nat} (h : ctab.all (fun p => !(p.1 == k)) = true) {x : Int} : ∀ p ∈ ctab, p.1 = k → p.2.1 ≤ x ∧ x ≤ p.2.2 := by
  intro p hp e
  have h2 := List.all_eq_true.mp h p hp
  rw [e] at h2
  simp at h2
theorem cf_one {k : Nat} {lo hi : Int} (h : ctab.all (fun p => !(p.1 == k) || (p.2.1 == lo && p.2.2 == hi)) = true) {x : Int} (h1 : lo ≤ x) (h2 : x ≤ hi) : ∀ p ∈ ctab, p.1 = k → p.2.1 ≤ x ∧ x ≤ p.2.2 := by
  intro p hp e
  have h3 := List.all_eq_true.mp h p hp
  rw [e] at h3
  simp at h3
  rw [h3.1, h3.2]
  exact ⟨h1, h2⟩
section CZ0
variable {f : Nat → Int32} {A : Nat → List Int32} {R : Nat → Value}
theorem cf_18 (hI : CI f A R) : 0 ≤ (f 18).toInt ∧ (f 18).toInt ≤ 2 := hI.1 (18, 0, 2) (List.mem_of_getElem? (i := 0) rfl)
theorem cf_19 (hI : CI f A R) : 0 ≤ (f 19).toInt ∧ (f 19).toInt ≤ 3 := hI.1 (19, 0, 3) (List.mem_of_getElem? (i := 1) rfl)
theorem cf_21 (hI : CI f A R) : 0 ≤ (f 21).toInt ∧ (f 21).toInt ≤ 600 := hI.1 (21, 0, 600) (List.mem_of_getElem? (i := 2) rfl)
theorem cf_80 (hI : CI f A R) : 0 ≤ (f 80).toInt ∧ (f 80).toInt ≤ 9 := hI.1 (80, 0, 9) (List.mem_of_getElem? (i := 3) rfl)
theorem cf_82 (hI : CI f A R) : 0 ≤ (f 82).toInt ∧ (f 82).toInt ≤ 7 := hI.1 (82, 0, 7) (List.mem_of_getElem? (i := 4) rfl)
theorem cf_160 (hI : CI f A R) : 0 ≤ (f 160).toInt ∧ (f 160).toInt ≤ 9 := hI.1 (160, 0, 9) (List.mem_of_getElem? (i := 5) rfl)
theorem cf_162 (hI : CI f A R) : 0 ≤ (f 162).toInt ∧ (f 162).toInt ≤ 7 := hI.1 (162, 0, 7) (List.mem_of_getElem? (i := 6) rfl)
theorem cf_240 (hI : CI f A R) : 0 ≤ (f 240).toInt ∧ (f 240).toInt ≤ 30 := hI.1 (240, 0, 30) (List.mem_of_getElem? (i := 7) rfl)
theorem cf_272 (hI : CI f A R) : 0 ≤ (f 272).toInt ∧ (f 272).toInt ≤ 30 := hI.1 (272, 0, 30) (List.mem_of_getElem? (i := 8) rfl)
theorem cf_304 (hI : CI f A R) : 0 ≤ (f 304).toInt ∧ (f 304).toInt ≤ 30 := hI.1 (304, 0, 30) (List.mem_of_getElem? (i := 9) rfl)
theorem cf_372 (hI : CI f A R) : 0 ≤ (f 372).toInt ∧ (f 372).toInt ≤ 600 := hI.1 (372, 0, 600) (List.mem_of_getElem? (i := 10) rfl)
theorem cf_373 (hI : CI f A R) : 0 ≤ (f 373).toInt ∧ (f 373).toInt ≤ 600 := hI.1 (373, 0, 600) (List.mem_of_getElem? (i := 11) rfl)
theorem cf_374 (hI : CI f A R) : 0 ≤ (f 374).toInt ∧ (f 374).toInt ≤ 4 := hI.1 (374, 0, 4) (List.mem_of_getElem? (i := 12) rfl)
theorem cf_375 (hI : CI f A R) : 0 ≤ (f 375).toInt ∧ (f 375).toInt ≤ 600 := hI.1 (375, 0, 600) (List.mem_of_getElem? (i := 13) rfl)
theorem cf_384 (hI : CI f A R) : 0 ≤ (f 384).toInt ∧ (f 384).toInt ≤ 9 := hI.1 (384, 0, 9) (List.mem_of_getElem? (i := 14) rfl)
theorem cf_386 (hI : CI f A R) : 0 ≤ (f 386).toInt ∧ (f 386).toInt ≤ 7 := hI.1 (386, 0, 7) (List.mem_of_getElem? (i := 15) rfl)
theorem cf_464 (hI : CI f A R) : 0 ≤ (f 464).toInt ∧ (f 464).toInt ≤ 30 := hI.1 (464, 0, 30) (List.mem_of_getElem? (i := 16) rfl)
theorem cf_530 (hI : CI f A R) : 0 ≤ (f 530).toInt ∧ (f 530).toInt ≤ 37 := hI.1 (530, 0, 37) (List.mem_of_getElem? (i := 17) rfl)
theorem cf_738 (hI : CI f A R) : 0 ≤ (f 738).toInt ∧ (f 738).toInt ≤ 37 := hI.1 (738, 0, 37) (List.mem_of_getElem? (i := 20) rfl)
theorem cf_886 (hI : CI f A R) : 0 ≤ (f 886).toInt ∧ (f 886).toInt ≤ 6 := hI.1 (886, 0, 6) (List.mem_of_getElem? (i := 23) rfl)
theorem cf_1095 (hI : CI f A R) : 0 ≤ (f 1095).toInt ∧ (f 1095).toInt ≤ 128 := hI.1 (1095, 0, 128) (List.mem_of_getElem? (i := 27) rfl)
theorem cf_1394 (hI : CI f A R) : 0 ≤ (f 1394).toInt ∧ (f 1394).toInt ≤ 2 := hI.1 (1394, 0, 2) (List.mem_of_getElem? (i := 30) rfl)
theorem cf_1395 (hI : CI f A R) : 0 ≤ (f 1395).toInt ∧ (f 1395).toInt ≤ 3 := hI.1 (1395, 0, 3) (List.mem_of_getElem? (i := 31) rfl)
theorem cf_1397 (hI : CI f A R) : 0 ≤ (f 1397).toInt ∧ (f 1397).toInt ≤ 600 := hI.1 (1397, 0, 600) (List.mem_of_getElem? (i := 32) rfl)
theorem cf_1456 (hI : CI f A R) : 0 ≤ (f 1456).toInt ∧ (f 1456).toInt ≤ 9 := hI.1 (1456, 0, 9) (List.mem_of_getElem? (i := 33) rfl)
theorem cf_1458 (hI : CI f A R) : 0 ≤ (f 1458).toInt ∧ (f 1458).toInt ≤ 7 := hI.1 (1458, 0, 7) (List.mem_of_getElem? (i := 34) rfl)
theorem cf_1536 (hI : CI f A R) : 0 ≤ (f 1536).toInt ∧ (f 1536).toInt ≤ 9 := hI.1 (1536, 0, 9) (List.mem_of_getElem? (i := 35) rfl)
theorem cf_1538 (hI : CI f A R) : 0 ≤ (f 1538).toInt ∧ (f 1538).toInt ≤ 7 := hI.1 (1538, 0, 7) (List.mem_of_getElem? (i := 36) rfl)
theorem cf_1616 (hI : CI f A R) : 0 ≤ (f 1616).toInt ∧ (f 1616).toInt ≤ 30 := hI.1 (1616, 0, 30) (List.mem_of_getElem? (i := 37) rfl)
theorem cf_1648 (hI : CI f A R) : 0 ≤ (f 1648).toInt ∧ (f 1648).toInt ≤ 30 := hI.1 (1648, 0, 30) (List.mem_of_getElem? (i := 38) rfl)
theorem cf_1680 (hI : CI f A R) : 0 ≤ (f 1680).toInt ∧ (f 1680).toInt ≤ 30 := hI.1 (1680, 0, 30) (List.mem_of_getElem? (i := 39) rfl)
theorem cf_1714 (hI : CI f A R) : 0 ≤ (f 1714).toInt ∧ (f 1714).toInt ≤ 2 := hI.1 (1714, 0, 2) (List.mem_of_getElem? (i := 40) rfl)
theorem cf_1715 (hI : CI f A R) : 0 ≤ (f 1715).toInt ∧ (f 1715).toInt ≤ 3 := hI.1 (1715, 0, 3) (List.mem_of_getElem? (i := 41) rfl)
theorem cf_1717 (hI : CI f A R) : 0 ≤ (f 1717).toInt ∧ (f 1717).toInt ≤ 600 := hI.1 (1717, 0, 600) (List.mem_of_getElem? (i := 42) rfl)
theorem cf_1776 (hI : CI f A R) : 0 ≤ (f 1776).toInt ∧ (f 1776).toInt ≤ 9 := hI.1 (1776, 0, 9) (List.mem_of_getElem? (i := 43) rfl)
theorem cf_1778 (hI : CI f A R) : 0 ≤ (f 1778).toInt ∧ (f 1778).toInt ≤ 7 := hI.1 (1778, 0, 7) (List.mem_of_getElem? (i := 44) rfl)
theorem cf_1856 (hI : CI f A R) : 0 ≤ (f 1856).toInt ∧ (f 1856).toInt ≤ 9 := hI.1 (1856, 0, 9) (List.mem_of_getElem? (i := 45) rfl)
theorem cf_1858 (hI : CI f A R) : 0 ≤ (f 1858).toInt ∧ (f 1858).toInt ≤ 7 := hI.1 (1858, 0, 7) (List.mem_of_getElem? (i := 46) rfl)
theorem cf_1936 (hI : CI f A R) : 0 ≤ (f 1936).toInt ∧ (f 1936).toInt ≤ 30 := hI.1 (1936, 0, 30) (List.mem_of_getElem? (i := 47) rfl)
theorem cf_1968 (hI : CI f A R) : 0 ≤ (f 1968).toInt ∧ (f 1968).toInt ≤ 30 := hI.1 (1968, 0, 30) (List.mem_of_getElem? (i := 48) rfl)
theorem cf_2000 (hI : CI f A R) : 0 ≤ (f 2000).toInt ∧ (f 2000).toInt ≤ 30 := hI.1 (2000, 0, 30) (List.mem_of_getElem? (i := 49) rfl)
theorem cf_2034 (hI : CI f A R) : 0 ≤ (f 2034).toInt ∧ (f 2034).toInt ≤ 2 := hI.1 (2034, 0, 2) (List.mem_of_getElem? (i := 50) rfl)
theorem cf_2035 (hI : CI f A R) : 0 ≤ (f 2035).toInt ∧ (f 2035).toInt ≤ 3 := hI.1 (2035, 0, 3) (List.mem_of_getElem? (i := 51) rfl)
theorem cf_2037 (hI : CI f A R) : 0 ≤ (f 2037).toInt ∧ (f 2037).toInt ≤ 600 := hI.1 (2037, 0, 600) (List.mem_of_getElem? (i := 52) rfl)
theorem cf_2096 (hI : CI f A R) : 0 ≤ (f 2096).toInt ∧ (f 2096).toInt ≤ 9 := hI.1 (2096, 0, 9) (List.mem_of_getElem? (i := 53) rfl)
theorem cf_2098 (hI : CI f A R) : 0 ≤ (f 2098).toInt ∧ (f 2098).toInt ≤ 7 := hI.1 (2098, 0, 7) (List.mem_of_getElem? (i := 54) rfl)
theorem cf_2176 (hI : CI f A R) : 0 ≤ (f 2176).toInt ∧ (f 2176).toInt ≤ 9 := hI.1 (2176, 0, 9) (List.mem_of_getElem? (i := 55) rfl)
theorem cf_2178 (hI : CI f A R) : 0 ≤ (f 2178).toInt ∧ (f 2178).toInt ≤ 7 := hI.1 (2178, 0, 7) (List.mem_of_getElem? (i := 56) rfl)
theorem cf_2256 (hI : CI f A R) : 0 ≤ (f 2256).toInt ∧ (f 2256).toInt ≤ 30 := hI.1 (2256, 0, 30) (List.mem_of_getElem? (i := 57) rfl)
theorem cf_2288 (hI : CI f A R) : 0 ≤ (f 2288).toInt ∧ (f 2288).toInt ≤ 30 := hI.1 (2288, 0, 30) (List.mem_of_getElem? (i := 58) rfl)
theorem cf_2320 (hI : CI f A R) : 0 ≤ (f 2320).toInt ∧ (f 2320).toInt ≤ 30 := hI.1 (2320, 0, 30) (List.mem_of_getElem? (i := 59) rfl)
theorem cl_4 (hI : CI f A R) : (A 4).length = 600 := hI.2.1 (4, 600) (List.mem_of_getElem? (i := 0) rfl)
theorem cl_6 (hI : CI f A R) : (A 6).length = 81 := hI.2.1 (6, 81) (List.mem_of_getElem? (i := 1) rfl)
theorem cl_7 (hI : CI f A R) : (A 7).length = 9 := hI.2.1 (7, 9) (List.mem_of_getElem? (i := 2) rfl)
theorem cl_8 (hI : CI f A R) : (A 8).length = 9 := hI.2.1 (8, 9) (List.mem_of_getElem? (i := 3) rfl)
theorem cl_9 (hI : CI f A R) : (A 9).length = 28 := hI.2.1 (9, 28) (List.mem_of_getElem? (i := 4) rfl)
theorem cl_11 (hI : CI f A R) : (A 11).length = 81 := hI.2.1 (11, 81) (List.mem_of_getElem? (i := 5) rfl)
theorem cl_12 (hI : CI f A R) : (A 12).length = 9 := hI.2.1 (12, 9) (List.mem_of_getElem? (i := 6) rfl)
theorem cl_13 (hI : CI f A R) : (A 13).length = 9 := hI.2.1 (13, 9) (List.mem_of_getElem? (i := 7) rfl)
theorem cl_14 (hI : CI f A R) : (A 14).length = 28 := hI.2.1 (14, 28) (List.mem_of_getElem? (i := 8) rfl)
theorem cl_16 (hI : CI f A R) : (A 16).length = 270 := hI.2.1 (16, 270) (List.mem_of_getElem? (i := 9) rfl)
theorem cl_18 (hI : CI f A R) : (A 18).length = 270 := hI.2.1 (18, 270) (List.mem_of_getElem? (i := 10) rfl)
theorem cl_20 (hI : CI f A R) : (A 20).length = 270 := hI.2.1 (20, 270) (List.mem_of_getElem? (i := 11) rfl)
theorem cl_22 (hI : CI f A R) : (A 22).length = 3 := hI.2.1 (22, 3) (List.mem_of_getElem? (i := 12) rfl)
theorem cl_25 (hI : CI f A R) : (A 25).length = 81 := hI.2.1 (25, 81) (List.mem_of_getElem? (i := 13) rfl)
theorem cl_26 (hI : CI f A R) : (A 26).length = 9 := hI.2.1 (26, 9) (List.mem_of_getElem? (i := 14) rfl)
theorem cl_27 (hI : CI f A R) : (A 27).length = 9 := hI.2.1 (27, 9) (List.mem_of_getElem? (i := 15) rfl)
theorem cl_28 (hI : CI f A R) : (A 28).length = 28 := hI.2.1 (28, 28) (List.mem_of_getElem? (i := 16) rfl)
theorem cl_30 (hI : CI f A R) : (A 30).length = 270 := hI.2.1 (30, 270) (List.mem_of_getElem? (i := 17) rfl)
theorem cl_31 (hI : CI f A R) : (A 31).length = 8 := hI.2.1 (31, 8) (List.mem_of_getElem? (i := 18) rfl)
theorem cl_32 (hI : CI f A R) : (A 32).length = 0 := hI.2.1 (32, 0) (List.mem_of_getElem? (i := 19) rfl)
theorem cl_35 (hI : CI f A R) : (A 35).length = 81 := hI.2.1 (35, 81) (List.mem_of_getElem? (i := 20) rfl)
theorem cl_36 (hI : CI f A R) : (A 36).length = 9 := hI.2.1 (36, 9) (List.mem_of_getElem? (i := 21) rfl)
theorem cl_37 (hI : CI f A R) : (A 37).length = 9 := hI.2.1 (37, 9) (List.mem_of_getElem? (i := 22) rfl)
theorem cl_38 (hI : CI f A R) : (A 38).length = 28 := hI.2.1 (38, 28) (List.mem_of_getElem? (i := 23) rfl)
theorem cl_39 (hI : CI f A R) : (A 39).length = 81 := hI.2.1 (39, 81) (List.mem_of_getElem? (i := 24) rfl)
theorem cl_40 (hI : CI f A R) : (A 40).length = 370 := hI.2.1 (40, 370) (List.mem_of_getElem? (i := 25) rfl)
theorem cl_41 (hI : CI f A R) : (A 41).length = 6 := hI.2.1 (41, 6) (List.mem_of_getElem? (i := 26) rfl)
theorem cl_43 (hI : CI f A R) : (A 43).length = 81 := hI.2.1 (43, 81) (List.mem_of_getElem? (i := 27) rfl)
theorem cl_44 (hI : CI f A R) : (A 44).length = 9 := hI.2.1 (44, 9) (List.mem_of_getElem? (i := 28) rfl)
theorem cl_45 (hI : CI f A R) : (A 45).length = 9 := hI.2.1 (45, 9) (List.mem_of_getElem? (i := 29) rfl)
theorem cl_48 (hI : CI f A R) : (A 48).length = 81 := hI.2.1 (48, 81) (List.mem_of_getElem? (i := 30) rfl)
theorem cl_49 (hI : CI f A R) : (A 49).length = 9 := hI.2.1 (49, 9) (List.mem_of_getElem? (i := 31) rfl)
theorem cl_50 (hI : CI f A R) : (A 50).length = 9 := hI.2.1 (50, 9) (List.mem_of_getElem? (i := 32) rfl)
theorem cl_51 (hI : CI f A R) : (A 51).length = 28 := hI.2.1 (51, 28) (List.mem_of_getElem? (i := 33) rfl)
theorem cl_52 (hI : CI f A R) : (A 52).length = 81 := hI.2.1 (52, 81) (List.mem_of_getElem? (i := 34) rfl)
theorem cl_53 (hI : CI f A R) : (A 53).length = 370 := hI.2.1 (53, 370) (List.mem_of_getElem? (i := 35) rfl)
theorem cl_54 (hI : CI f A R) : (A 54).length = 6 := hI.2.1 (54, 6) (List.mem_of_getElem? (i := 36) rfl)
theorem cl_58 (hI : CI f A R) : (A 58).length = 81 := hI.2.1 (58, 81) (List.mem_of_getElem? (i := 37) rfl)
theorem cl_59 (hI : CI f A R) : (A 59).length = 9 := hI.2.1 (59, 9) (List.mem_of_getElem? (i := 38) rfl)
theorem cl_60 (hI : CI f A R) : (A 60).length = 9 := hI.2.1 (60, 9) (List.mem_of_getElem? (i := 39) rfl)
theorem cl_61 (hI : CI f A R) : (A 61).length = 28 := hI.2.1 (61, 28) (List.mem_of_getElem? (i := 40) rfl)
theorem cl_62 (hI : CI f A R) : (A 62).length = 81 := hI.2.1 (62, 81) (List.mem_of_getElem? (i := 41) rfl)
theorem cl_63 (hI : CI f A R) : (A 63).length = 370 := hI.2.1 (63, 370) (List.mem_of_getElem? (i := 42) rfl)
theorem cl_64 (hI : CI f A R) : (A 64).length = 6 := hI.2.1 (64, 6) (List.mem_of_getElem? (i := 43) rfl)
theorem cl_65 (hI : CI f A R) : (A 65).length = 9 := hI.2.1 (65, 9) (List.mem_of_getElem? (i := 44) rfl)
theorem cl_66 (hI : CI f A R) : (A 66).length = 6 := hI.2.1 (66, 6) (List.mem_of_getElem? (i := 45) rfl)
theorem cl_67 (hI : CI f A R) : (A 67).length = 6 := hI.2.1 (67, 6) (List.mem_of_getElem? (i := 46) rfl)
theorem cl_70 (hI : CI f A R) : (A 70).length = 81 := hI.2.1 (70, 81) (List.mem_of_getElem? (i := 47) rfl)
theorem cl_71 (hI : CI f A R) : (A 71).length = 9 := hI.2.1 (71, 9) (List.mem_of_getElem? (i := 48) rfl)
theorem cl_72 (hI : CI f A R) : (A 72).length = 9 := hI.2.1 (72, 9) (List.mem_of_getElem? (i := 49) rfl)
theorem cl_73 (hI : CI f A R) : (A 73).length = 28 := hI.2.1 (73, 28) (List.mem_of_getElem? (i := 50) rfl)
theorem cl_74 (hI : CI f A R) : (A 74).length = 81 := hI.2.1 (74, 81) (List.mem_of_getElem? (i := 51) rfl)
theorem cl_75 (hI : CI f A R) : (A 75).length = 81 := hI.2.1 (75, 81) (List.mem_of_getElem? (i := 52) rfl)
theorem cl_76 (hI : CI f A R) : (A 76).length = 9 := hI.2.1 (76, 9) (List.mem_of_getElem? (i := 53) rfl)
theorem cl_77 (hI : CI f A R) : (A 77).length = 128 := hI.2.1 (77, 128) (List.mem_of_getElem? (i := 54) rfl)
theorem cl_78 (hI : CI f A R) : (A 78).length = 128 := hI.2.1 (78, 128) (List.mem_of_getElem? (i := 55) rfl)
theorem cl_80 (hI : CI f A R) : (A 80).length = 144 := hI.2.1 (80, 144) (List.mem_of_getElem? (i := 56) rfl)
theorem cl_81 (hI : CI f A R) : (A 81).length = 12 := hI.2.1 (81, 12) (List.mem_of_getElem? (i := 57) rfl)
theorem cl_82 (hI : CI f A R) : (A 82).length = 12 := hI.2.1 (82, 12) (List.mem_of_getElem? (i := 58) rfl)
theorem cl_84 (hI : CI f A R) : (A 84).length = 9 := hI.2.1 (84, 9) (List.mem_of_getElem? (i := 59) rfl)
theorem cl_86 (hI : CI f A R) : (A 86).length = 6 := hI.2.1 (86, 6) (List.mem_of_getElem? (i := 60) rfl)
theorem cl_90 (hI : CI f A R) : (A 90).length = 600 := hI.2.1 (90, 600) (List.mem_of_getElem? (i := 61) rfl)
theorem cl_92 (hI : CI f A R) : (A 92).length = 81 := hI.2.1 (92, 81) (List.mem_of_getElem? (i := 62) rfl)
theorem cl_93 (hI : CI f A R) : (A 93).length = 9 := hI.2.1 (93, 9) (List.mem_of_getElem? (i := 63) rfl)
theorem cl_94 (hI : CI f A R) : (A 94).length = 9 := hI.2.1 (94, 9) (List.mem_of_getElem? (i := 64) rfl)
theorem cl_95 (hI : CI f A R) : (A 95).length = 28 := hI.2.1 (95, 28) (List.mem_of_getElem? (i := 65) rfl)
theorem cl_97 (hI : CI f A R) : (A 97).length = 81 := hI.2.1 (97, 81) (List.mem_of_getElem? (i := 66) rfl)
theorem cl_98 (hI : CI f A R) : (A 98).length = 9 := hI.2.1 (98, 9) (List.mem_of_getElem? (i := 67) rfl)
theorem cl_99 (hI : CI f A R) : (A 99).length = 9 := hI.2.1 (99, 9) (List.mem_of_getElem? (i := 68) rfl)
theorem cl_100 (hI : CI f A R) : (A 100).length = 28 := hI.2.1 (100, 28) (List.mem_of_getElem? (i := 69) rfl)
theorem cl_102 (hI : CI f A R) : (A 102).length = 270 := hI.2.1 (102, 270) (List.mem_of_getElem? (i := 70) rfl)
theorem cl_104 (hI : CI f A R) : (A 104).length = 270 := hI.2.1 (104, 270) (List.mem_of_getElem? (i := 71) rfl)
theorem cl_106 (hI : CI f A R) : (A 106).length = 270 := hI.2.1 (106, 270) (List.mem_of_getElem? (i := 72) rfl)
theorem cl_110 (hI : CI f A R) : (A 110).length = 600 := hI.2.1 (110, 600) (List.mem_of_getElem? (i := 73) rfl)
theorem cl_112 (hI : CI f A R) : (A 112).length = 81 := hI.2.1 (112, 81) (List.mem_of_getElem? (i := 74) rfl)
theorem cl_113 (hI : CI f A R) : (A 113).length = 9 := hI.2.1 (113, 9) (List.mem_of_getElem? (i := 75) rfl)
theorem cl_114 (hI : CI f A R) : (A 114).length = 9 := hI.2.1 (114, 9) (List.mem_of_getElem? (i := 76) rfl)
theorem cl_115 (hI : CI f A R) : (A 115).length = 28 := hI.2.1 (115, 28) (List.mem_of_getElem? (i := 77) rfl)
theorem cl_117 (hI : CI f A R) : (A 117).length = 81 := hI.2.1 (117, 81) (List.mem_of_getElem? (i := 78) rfl)
theorem cl_118 (hI : CI f A R) : (A 118).length = 9 := hI.2.1 (118, 9) (List.mem_of_getElem? (i := 79) rfl)
theorem cl_119 (hI : CI f A R) : (A 119).length = 9 := hI.2.1 (119, 9) (List.mem_of_getElem? (i := 80) rfl)
theorem cl_120 (hI : CI f A R) : (A 120).length = 28 := hI.2.1 (120, 28) (List.mem_of_getElem? (i := 81) rfl)
theorem cl_122 (hI : CI f A R) : (A 122).length = 270 := hI.2.1 (122, 270) (List.mem_of_getElem? (i := 82) rfl)
theorem cl_124 (hI : CI f A R) : (A 124).length = 270 := hI.2.1 (124, 270) (List.mem_of_getElem? (i := 83) rfl)
theorem cl_126 (hI : CI f A R) : (A 126).length = 270 := hI.2.1 (126, 270) (List.mem_of_getElem? (i := 84) rfl)
theorem cl_130 (hI : CI f A R) : (A 130).length = 600 := hI.2.1 (130, 600) (List.mem_of_getElem? (i := 85) rfl)
theorem cl_132 (hI : CI f A R) : (A 132).length = 81 := hI.2.1 (132, 81) (List.mem_of_getElem? (i := 86) rfl)
theorem cl_133 (hI : CI f A R) : (A 133).length = 9 := hI.2.1 (133, 9) (List.mem_of_getElem? (i := 87) rfl)
theorem cl_134 (hI : CI f A R) : (A 134).length = 9 := hI.2.1 (134, 9) (List.mem_of_getElem? (i := 88) rfl)
theorem cl_135 (hI : CI f A R) : (A 135).length = 28 := hI.2.1 (135, 28) (List.mem_of_getElem? (i := 89) rfl)
theorem cl_137 (hI : CI f A R) : (A 137).length = 81 := hI.2.1 (137, 81) (List.mem_of_getElem? (i := 90) rfl)
theorem cl_138 (hI : CI f A R) : (A 138).length = 9 := hI.2.1 (138, 9) (List.mem_of_getElem? (i := 91) rfl)
theorem cl_139 (hI : CI f A R) : (A 139).length = 9 := hI.2.1 (139, 9) (List.mem_of_getElem? (i := 92) rfl)
theorem cl_140 (hI : CI f A R) : (A 140).length = 28 := hI.2.1 (140, 28) (List.mem_of_getElem? (i := 93) rfl)
theorem cl_142 (hI : CI f A R) : (A 142).length = 270 := hI.2.1 (142, 270) (List.mem_of_getElem? (i := 94) rfl)
theorem cl_144 (hI : CI f A R) : (A 144).length = 270 := hI.2.1 (144, 270) (List.mem_of_getElem? (i := 95) rfl)
theorem cl_146 (hI : CI f A R) : (A 146).length = 270 := hI.2.1 (146, 270) (List.mem_of_getElem? (i := 96) rfl)
theorem ct_4 (hI : CI f A R) {v : Int32} {i : Nat} (e : v = (A 4).getD i 0) : CT 7 i v.toInt := by rw [e]; exact hI.2.2.1 (4, 7) (List.mem_of_getElem? (i := 0) rfl) i
theorem ct_9 (hI : CI f A R) {v : Int32} {i : Nat} (e : v = (A 9).getD i 0) : CT 0 i v.toInt := by rw [e]; exact hI.2.2.1 (9, 0) (List.mem_of_getElem? (i := 1) rfl) i
theorem ct_14 (hI : CI f A R) {v : Int32} {i : Nat} (e : v = (A 14).getD i 0) : CT 0 i v.toInt := by rw [e]; exact hI.2.2.1 (14, 0) (List.mem_of_getElem? (i := 2) rfl) i
theorem ct_22 (hI : CI f A R) {v : Int32} {i : Nat} (e : v = (A 22).getD i 0) : CT 6 i v.toInt := by rw [e]; exact hI.2.2.1 (22, 6) (List.mem_of_getElem? (i := 3) rfl) i
theorem ct_28 (hI : CI f A R) {v : Int32} {i : Nat} (e : v = (A 28).getD i 0) : CT 0 i v.toInt := by rw [e]; exact hI.2.2.1 (28, 0) (List.mem_of_getElem? (i := 4) rfl) i
theorem ct_40 (hI : CI f A R) {v : Int32} {i : Nat} (e : v = (A 40).getD i 0) : CT 1 i v.toInt := by rw [e]; exact hI.2.2.1 (40, 1) (List.mem_of_getElem? (i := 6) rfl) i
theorem ct_44 (hI : CI f A R) {v : Int32} {i : Nat} (e : v = (A 44).getD i 0) : CT 2 i v.toInt := by rw [e]; exact hI.2.2.1 (44, 2) (List.mem_of_getElem? (i := 7) rfl) i
theorem ct_45 (hI : CI f A R) {v : Int32} {i : Nat} (e : v = (A 45).getD i 0) : CT 3 i v.toInt := by rw [e]; exact hI.2.2.1 (45, 3) (List.mem_of_getElem? (i := 8) rfl) i
theorem ct_53 (hI : CI f A R) {v : Int32} {i : Nat} (e : v = (A 53).getD i 0) : CT 1 i v.toInt := by rw [e]; exact hI.2.2.1 (53, 1) (List.mem_of_getElem? (i := 10) rfl) i
theorem ct_66 (hI : CI f A R) {v : Int32} {i : Nat} (e : v = (A 66).getD i 0) : CT 2 i v.toInt := by rw [e]; exact hI.2.2.1 (66, 2) (List.mem_of_getElem? (i := 13) rfl) i
theorem ct_67 (hI : CI f A R) {v : Int32} {i : Nat} (e : v = (A 67).getD i 0) : CT 2 i v.toInt := by rw [e]; exact hI.2.2.1 (67, 2) (List.mem_of_getElem? (i := 14) rfl) i
theorem ct_78 (hI : CI f A R) {v : Int32} {i : Nat} (e : v = (A 78).getD i 0) : CT 6 i v.toInt := by rw [e]; exact hI.2.2.1 (78, 6) (List.mem_of_getElem? (i := 16) rfl) i
theorem ct_81 (hI : CI f A R) {v : Int32} {i : Nat} (e : v = (A 81).getD i 0) : CT 4 i v.toInt := by rw [e]; exact hI.2.2.1 (81, 4) (List.mem_of_getElem? (i := 17) rfl) i
theorem ct_82 (hI : CI f A R) {v : Int32} {i : Nat} (e : v = (A 82).getD i 0) : CT 5 i v.toInt := by rw [e]; exact hI.2.2.1 (82, 5) (List.mem_of_getElem? (i := 18) rfl) i
theorem ct_90 (hI : CI f A R) {v : Int32} {i : Nat} (e : v = (A 90).getD i 0) : CT 7 i v.toInt := by rw [e]; exact hI.2.2.1 (90, 7) (List.mem_of_getElem? (i := 19) rfl) i
theorem ct_95 (hI : CI f A R) {v : Int32} {i : Nat} (e : v = (A 95).getD i 0) : CT 0 i v.toInt := by rw [e]; exact hI.2.2.1 (95, 0) (List.mem_of_getElem? (i := 20) rfl) i
theorem ct_100 (hI : CI f A R) {v : Int32} {i : Nat} (e : v = (A 100).getD i 0) : CT 0 i v.toInt := by rw [e]; exact hI.2.2.1 (100, 0) (List.mem_of_getElem? (i := 21) rfl) i
theorem ct_110 (hI : CI f A R) {v : Int32} {i : Nat} (e : v = (A 110).getD i 0) : CT 7 i v.toInt := by rw [e]; exact hI.2.2.1 (110, 7) (List.mem_of_getElem? (i := 22) rfl) i
theorem ct_115 (hI : CI f A R) {v : Int32} {i : Nat} (e : v = (A 115).getD i 0) : CT 0 i v.toInt := by rw [e]; exact hI.2.2.1 (115, 0) (List.mem_of_getElem? (i := 23) rfl) i
theorem ct_120 (hI : CI f A R) {v : Int32} {i : Nat} (e : v = (A 120).getD i 0) : CT 0 i v.toInt := by rw [e]; exact hI.2.2.1 (120, 0) (List.mem_of_getElem? (i := 24) rfl) i
theorem ct_130 (hI : CI f A R) {v : Int32} {i : Nat} (e : v = (A 130).getD i 0) : CT 7 i v.toInt := by rw [e]; exact hI.2.2.1 (130, 7) (List.mem_of_getElem? (i := 25) rfl) i
theorem ct_135 (hI : CI f A R) {v : Int32} {i : Nat} (e : v = (A 135).getD i 0) : CT 0 i v.toInt := by rw [e]; exact hI.2.2.1 (135, 0) (List.mem_of_getElem? (i := 26) rfl) i
theorem ct_140 (hI : CI f A R) {v : Int32} {i : Nat} (e : v = (A 140).getD i 0) : CT 0 i v.toInt := by rw [e]; exact hI.2.2.1 (140, 0) (List.mem_of_getElem? (i := 27) rfl) i
end CZ0
section CZ1
variable {X : pm_X} {d mi pc : Nat} {ls st : List Value} {wr : pm_W} {f : Nat → Int32} {A : Nat → List Int32} {R : Nat → Value} {Q : pm_R → Prop} {x : Int32} {a : Int}
theorem cz_put18 {jj : Nat} (hd : pm_dec pg mi pc = some (.putfield jj)) (hl : pm_put pg mi jj = some (8, 2, .int)) (hI : CI f A R) (h1 : 0 ≤ x.toInt) (h2 : x.toInt ≤ 2) (kk : ∀ f' : Nat → Int32, f' = upf f 18 x → CI f' A R → pmE pg X pg_tyl pg_cl d mi (pc + 3) ls st (cd f' A R wr) Q) : pmE pg X pg_tyl pg_cl d mi pc ls (.int x :: .ref 1 :: st) (cd f A R wr) Q :=
  pe_put hd hl cd_o1 (Nat.le_of_ble_eq_true rfl) (pm_fit_int _) cd_f18 (kk _ rfl (ci_put hI (cf_one (lo := 0) (hi := 2) (by decide +kernel) h1 h2)))
theorem cz_put19 {jj : Nat} (hd : pm_dec pg mi pc = some (.putfield jj)) (hl : pm_put pg mi jj = some (8, 3, .int)) (hI : CI f A R) (h1 : 0 ≤ x.toInt) (h2 : x.toInt ≤ 3) (kk : ∀ f' : Nat → Int32, f' = upf f 19 x → CI f' A R → pmE pg X pg_tyl pg_cl d mi (pc + 3) ls st (cd f' A R wr) Q) : pmE pg X pg_tyl pg_cl d mi pc ls (.int x :: .ref 1 :: st) (cd f A R wr) Q :=
  pe_put hd hl cd_o1 (Nat.le_of_ble_eq_true rfl) (pm_fit_int _) cd_f19 (kk _ rfl (ci_put hI (cf_one (lo := 0) (hi := 3) (by decide +kernel) h1 h2)))
theorem cz_put21 {jj : Nat} (hd : pm_dec pg mi pc = some (.putfield jj)) (hl : pm_put pg mi jj = some (8, 5, .int)) (hI : CI f A R) (h1 : 0 ≤ x.toInt) (h2 : x.toInt ≤ 600) (kk : ∀ f' : Nat → Int32, f' = upf f 21 x → CI f' A R → pmE pg X pg_tyl pg_cl d mi (pc + 3) ls st (cd f' A R wr) Q) : pmE pg X pg_tyl pg_cl d mi pc ls (.int x :: .ref 1 :: st) (cd f A R wr) Q :=
  pe_put hd hl cd_o1 (Nat.le_of_ble_eq_true rfl) (pm_fit_int _) cd_f21 (kk _ rfl (ci_put hI (cf_one (lo := 0) (hi := 600) (by decide +kernel) h1 h2)))
theorem cz_put22 {jj : Nat} (hd : pm_dec pg mi pc = some (.putfield jj)) (hl : pm_put pg mi jj = some (8, 6, .int)) (hI : CI f A R) (kk : ∀ f' : Nat → Int32, f' = upf f 22 x → CI f' A R → pmE pg X pg_tyl pg_cl d mi (pc + 3) ls st (cd f' A R wr) Q) : pmE pg X pg_tyl pg_cl d mi pc ls (.int x :: .ref 1 :: st) (cd f A R wr) Q :=
  pe_put hd hl cd_o1 (Nat.le_of_ble_eq_true rfl) (pm_fit_int _) cd_f22 (kk _ rfl (ci_put hI (cf_no (by decide +kernel))))
theorem cz_put23 {jj : Nat} (hd : pm_dec pg mi pc = some (.putfield jj)) (hl : pm_put pg mi jj = some (8, 7, .int)) (hI : CI f A R) (kk : ∀ f' : Nat → Int32, f' = upf f 23 x → CI f' A R → pmE pg X pg_tyl pg_cl d mi (pc + 3) ls st (cd f' A R wr) Q) : pmE pg X pg_tyl pg_cl d mi pc ls (.int x :: .ref 1 :: st) (cd f A R wr) Q :=
  pe_put hd hl cd_o1 (Nat.le_of_ble_eq_true rfl) (pm_fit_int _) cd_f23 (kk _ rfl (ci_put hI (cf_no (by decide +kernel))))
theorem cz_put80 {jj : Nat} (hd : pm_dec pg mi pc = some (.putfield jj)) (hl : pm_put pg mi jj = some (9, 0, .int)) (hI : CI f A R) (h1 : 0 ≤ x.toInt) (h2 : x.toInt ≤ 9) (kk : ∀ f' : Nat → Int32, f' = upf f 80 x → CI f' A R → pmE pg X pg_tyl pg_cl d mi (pc + 3) ls st (cd f' A R wr) Q) : pmE pg X pg_tyl pg_cl d mi pc ls (.int x :: .ref 5 :: st) (cd f A R wr) Q :=
  pe_put hd hl cd_o5 (Nat.le_of_ble_eq_true rfl) (pm_fit_int _) cd_f80 (kk _ rfl (ci_put hI (cf_one (lo := 0) (hi := 9) (by decide +kernel) h1 h2)))
theorem cz_put81 {jj : Nat} (hd : pm_dec pg mi pc = some (.putfield jj)) (hl : pm_put pg mi jj = some (9, 1, .int)) (hI : CI f A R) (kk : ∀ f' : Nat → Int32, f' = upf f 81 x → CI f' A R → pmE pg X pg_tyl pg_cl d mi (pc + 3) ls st (cd f' A R wr) Q) : pmE pg X pg_tyl pg_cl d mi pc ls (.int x :: .ref 5 :: st) (cd f A R wr) Q :=
  pe_put hd hl cd_o5 (Nat.le_of_ble_eq_true rfl) (pm_fit_int _) cd_f81 (kk _ rfl (ci_put hI (cf_no (by decide +kernel))))
theorem cz_put82 {jj : Nat} (hd : pm_dec pg mi pc = some (.putfield jj)) (hl : pm_put pg mi jj = some (9, 2, .int)) (hI : CI f A R) (h1 : 0 ≤ x.toInt) (h2 : x.toInt ≤ 7) (kk : ∀ f' : Nat → Int32, f' = upf f 82 x → CI f' A R → pmE pg X pg_tyl pg_cl d mi (pc + 3) ls st (cd f' A R wr) Q) : pmE pg X pg_tyl pg_cl d mi pc ls (.int x :: .ref 5 :: st) (cd f A R wr) Q :=
  pe_put hd hl cd_o5 (Nat.le_of_ble_eq_true rfl) (pm_fit_int _) cd_f82 (kk _ rfl (ci_put hI (cf_one (lo := 0) (hi := 7) (by decide +kernel) h1 h2)))
theorem cz_put160 {jj : Nat} (hd : pm_dec pg mi pc = some (.putfield jj)) (hl : pm_put pg mi jj = some (9, 0, .int)) (hI : CI f A R) (h1 : 0 ≤ x.toInt) (h2 : x.toInt ≤ 9) (kk : ∀ f' : Nat → Int32, f' = upf f 160 x → CI f' A R → pmE pg X pg_tyl pg_cl d mi (pc + 3) ls st (cd f' A R wr) Q) : pmE pg X pg_tyl pg_cl d mi pc ls (.int x :: .ref 10 :: st) (cd f A R wr) Q :=
  pe_put hd hl cd_o10 (Nat.le_of_ble_eq_true rfl) (pm_fit_int _) cd_f160 (kk _ rfl (ci_put hI (cf_one (lo := 0) (hi := 9) (by decide +kernel) h1 h2)))
theorem cz_put161 {jj : Nat} (hd : pm_dec pg mi pc = some (.putfield jj)) (hl : pm_put pg mi jj = some (9, 1, .int)) (hI : CI f A R) (kk : ∀ f' : Nat → Int32, f' = upf f 161 x → CI f' A R → pmE pg X pg_tyl pg_cl d mi (pc + 3) ls st (cd f' A R wr) Q) : pmE pg X pg_tyl pg_cl d mi pc ls (.int x :: .ref 10 :: st) (cd f A R wr) Q :=
  pe_put hd hl cd_o10 (Nat.le_of_ble_eq_true rfl) (pm_fit_int _) cd_f161 (kk _ rfl (ci_put hI (cf_no (by decide +kernel))))
theorem cz_put162 {jj : Nat} (hd : pm_dec pg mi pc = some (.putfield jj)) (hl : pm_put pg mi jj = some (9, 2, .int)) (hI : CI f A R) (h1 : 0 ≤ x.toInt) (h2 : x.toInt ≤ 7) (kk : ∀ f' : Nat → Int32, f' = upf f 162 x → CI f' A R → pmE pg X pg_tyl pg_cl d mi (pc + 3) ls st (cd f' A R wr) Q) : pmE pg X pg_tyl pg_cl d mi pc ls (.int x :: .ref 10 :: st) (cd f A R wr) Q :=
  pe_put hd hl cd_o10 (Nat.le_of_ble_eq_true rfl) (pm_fit_int _) cd_f162 (kk _ rfl (ci_put hI (cf_one (lo := 0) (hi := 7) (by decide +kernel) h1 h2)))
theorem cz_put240 {jj : Nat} (hd : pm_dec pg mi pc = some (.putfield jj)) (hl : pm_put pg mi jj = some (5, 0, .int)) (hI : CI f A R) (h1 : 0 ≤ x.toInt) (h2 : x.toInt ≤ 30) (kk : ∀ f' : Nat → Int32, f' = upf f 240 x → CI f' A R → pmE pg X pg_tyl pg_cl d mi (pc + 3) ls st (cd f' A R wr) Q) : pmE pg X pg_tyl pg_cl d mi pc ls (.int x :: .ref 15 :: st) (cd f A R wr) Q :=
  pe_put hd hl cd_o15 (Nat.le_of_ble_eq_true rfl) (pm_fit_int _) cd_f240 (kk _ rfl (ci_put hI (cf_one (lo := 0) (hi := 30) (by decide +kernel) h1 h2)))
theorem cz_put272 {jj : Nat} (hd : pm_dec pg mi pc = some (.putfield jj)) (hl : pm_put pg mi jj = some (5, 0, .int)) (hI : CI f A R) (h1 : 0 ≤ x.toInt) (h2 : x.toInt ≤ 30) (kk : ∀ f' : Nat → Int32, f' = upf f 272 x → CI f' A R → pmE pg X pg_tyl pg_cl d mi (pc + 3) ls st (cd f' A R wr) Q) : pmE pg X pg_tyl pg_cl d mi pc ls (.int x :: .ref 17 :: st) (cd f A R wr) Q :=
  pe_put hd hl cd_o17 (Nat.le_of_ble_eq_true rfl) (pm_fit_int _) cd_f272 (kk _ rfl (ci_put hI (cf_one (lo := 0) (hi := 30) (by decide +kernel) h1 h2)))
theorem cz_put304 {jj : Nat} (hd : pm_dec pg mi pc = some (.putfield jj)) (hl : pm_put pg mi jj = some (5, 0, .int)) (hI : CI f A R) (h1 : 0 ≤ x.toInt) (h2 : x.toInt ≤ 30) (kk : ∀ f' : Nat → Int32, f' = upf f 304 x → CI f' A R → pmE pg X pg_tyl pg_cl d mi (pc + 3) ls st (cd f' A R wr) Q) : pmE pg X pg_tyl pg_cl d mi pc ls (.int x :: .ref 19 :: st) (cd f A R wr) Q :=
  pe_put hd hl cd_o19 (Nat.le_of_ble_eq_true rfl) (pm_fit_int _) cd_f304 (kk _ rfl (ci_put hI (cf_one (lo := 0) (hi := 30) (by decide +kernel) h1 h2)))
theorem cz_put372 {jj : Nat} (hd : pm_dec pg mi pc = some (.putfield jj)) (hl : pm_put pg mi jj = some (4, 4, .int)) (hI : CI f A R) (h1 : 0 ≤ x.toInt) (h2 : x.toInt ≤ 600) (kk : ∀ f' : Nat → Int32, f' = upf f 372 x → CI f' A R → pmE pg X pg_tyl pg_cl d mi (pc + 3) ls st (cd f' A R wr) Q) : pmE pg X pg_tyl pg_cl d mi pc ls (.int x :: .ref 23 :: st) (cd f A R wr) Q :=
  pe_put hd hl cd_o23 (Nat.le_of_ble_eq_true rfl) (pm_fit_int _) cd_f372 (kk _ rfl (ci_put hI (cf_one (lo := 0) (hi := 600) (by decide +kernel) h1 h2)))
theorem cz_put373 {jj : Nat} (hd : pm_dec pg mi pc = some (.putfield jj)) (hl : pm_put pg mi jj = some (4, 5, .int)) (hI : CI f A R) (h1 : 0 ≤ x.toInt) (h2 : x.toInt ≤ 600) (kk : ∀ f' : Nat → Int32, f' = upf f 373 x → CI f' A R → pmE pg X pg_tyl pg_cl d mi (pc + 3) ls st (cd f' A R wr) Q) : pmE pg X pg_tyl pg_cl d mi pc ls (.int x :: .ref 23 :: st) (cd f A R wr) Q :=
  pe_put hd hl cd_o23 (Nat.le_of_ble_eq_true rfl) (pm_fit_int _) cd_f373 (kk _ rfl (ci_put hI (cf_one (lo := 0) (hi := 600) (by decide +kernel) h1 h2)))
theorem cz_put374 {jj : Nat} (hd : pm_dec pg mi pc = some (.putfield jj)) (hl : pm_put pg mi jj = some (4, 6, .int)) (hI : CI f A R) (h1 : 0 ≤ x.toInt) (h2 : x.toInt ≤ 4) (kk : ∀ f' : Nat → Int32, f' = upf f 374 x → CI f' A R → pmE pg X pg_tyl pg_cl d mi (pc + 3) ls st (cd f' A R wr) Q) : pmE pg X pg_tyl pg_cl d mi pc ls (.int x :: .ref 23 :: st) (cd f A R wr) Q :=
  pe_put hd hl cd_o23 (Nat.le_of_ble_eq_true rfl) (pm_fit_int _) cd_f374 (kk _ rfl (ci_put hI (cf_one (lo := 0) (hi := 4) (by decide +kernel) h1 h2)))
theorem cz_put375 {jj : Nat} (hd : pm_dec pg mi pc = some (.putfield jj)) (hl : pm_put pg mi jj = some (4, 7, .int)) (hI : CI f A R) (h1 : 0 ≤ x.toInt) (h2 : x.toInt ≤ 600) (kk : ∀ f' : Nat → Int32, f' = upf f 375 x → CI f' A R → pmE pg X pg_tyl pg_cl d mi (pc + 3) ls st (cd f' A R wr) Q) : pmE pg X pg_tyl pg_cl d mi pc ls (.int x :: .ref 23 :: st) (cd f A R wr) Q :=
  pe_put hd hl cd_o23 (Nat.le_of_ble_eq_true rfl) (pm_fit_int _) cd_f375 (kk _ rfl (ci_put hI (cf_one (lo := 0) (hi := 600) (by decide +kernel) h1 h2)))
theorem cz_put376 {jj : Nat} (hd : pm_dec pg mi pc = some (.putfield jj)) (hl : pm_put pg mi jj = some (4, 8, .int)) (hI : CI f A R) (kk : ∀ f' : Nat → Int32, f' = upf f 376 x → CI f' A R → pmE pg X pg_tyl pg_cl d mi (pc + 3) ls st (cd f' A R wr) Q) : pmE pg X pg_tyl pg_cl d mi pc ls (.int x :: .ref 23 :: st) (cd f A R wr) Q :=
  pe_put hd hl cd_o23 (Nat.le_of_ble_eq_true rfl) (pm_fit_int _) cd_f376 (kk _ rfl (ci_put hI (cf_no (by decide +kernel))))
theorem cz_put377 {jj : Nat} (hd : pm_dec pg mi pc = some (.putfield jj)) (hl : pm_put pg mi jj = some (4, 9, .int)) (hI : CI f A R) (kk : ∀ f' : Nat → Int32, f' = upf f 377 x → CI f' A R → pmE pg X pg_tyl pg_cl d mi (pc + 3) ls st (cd f' A R wr) Q) : pmE pg X pg_tyl pg_cl d mi pc ls (.int x :: .ref 23 :: st) (cd f A R wr) Q :=
  pe_put hd hl cd_o23 (Nat.le_of_ble_eq_true rfl) (pm_fit_int _) cd_f377 (kk _ rfl (ci_put hI (cf_no (by decide +kernel))))
theorem cz_put378 {jj : Nat} (hd : pm_dec pg mi pc = some (.putfield jj)) (hl : pm_put pg mi jj = some (4, 10, .int)) (hI : CI f A R) (kk : ∀ f' : Nat → Int32, f' = upf f 378 x → CI f' A R → pmE pg X pg_tyl pg_cl d mi (pc + 3) ls st (cd f' A R wr) Q) : pmE pg X pg_tyl pg_cl d mi pc ls (.int x :: .ref 23 :: st) (cd f A R wr) Q :=
  pe_put hd hl cd_o23 (Nat.le_of_ble_eq_true rfl) (pm_fit_int _) cd_f378 (kk _ rfl (ci_put hI (cf_no (by decide +kernel))))
theorem cz_put379 {jj : Nat} (hd : pm_dec pg mi pc = some (.putfield jj)) (hl : pm_put pg mi jj = some (4, 11, .int)) (hI : CI f A R) (kk : ∀ f' : Nat → Int32, f' = upf f 379 x → CI f' A R → pmE pg X pg_tyl pg_cl d mi (pc + 3) ls st (cd f' A R wr) Q) : pmE pg X pg_tyl pg_cl d mi pc ls (.int x :: .ref 23 :: st) (cd f A R wr) Q :=
  pe_put hd hl cd_o23 (Nat.le_of_ble_eq_true rfl) (pm_fit_int _) cd_f379 (kk _ rfl (ci_put hI (cf_no (by decide +kernel))))
theorem cz_put384 {jj : Nat} (hd : pm_dec pg mi pc = some (.putfield jj)) (hl : pm_put pg mi jj = some (9, 0, .int)) (hI : CI f A R) (h1 : 0 ≤ x.toInt) (h2 : x.toInt ≤ 9) (kk : ∀ f' : Nat → Int32, f' = upf f 384 x → CI f' A R → pmE pg X pg_tyl pg_cl d mi (pc + 3) ls st (cd f' A R wr) Q) : pmE pg X pg_tyl pg_cl d mi pc ls (.int x :: .ref 24 :: st) (cd f A R wr) Q :=
  pe_put hd hl cd_o24 (Nat.le_of_ble_eq_true rfl) (pm_fit_int _) cd_f384 (kk _ rfl (ci_put hI (cf_one (lo := 0) (hi := 9) (by decide +kernel) h1 h2)))
theorem cz_put385 {jj : Nat} (hd : pm_dec pg mi pc = some (.putfield jj)) (hl : pm_put pg mi jj = some (9, 1, .int)) (hI : CI f A R) (kk : ∀ f' : Nat → Int32, f' = upf f 385 x → CI f' A R → pmE pg X pg_tyl pg_cl d mi (pc + 3) ls st (cd f' A R wr) Q) : pmE pg X pg_tyl pg_cl d mi pc ls (.int x :: .ref 24 :: st) (cd f A R wr) Q :=
  pe_put hd hl cd_o24 (Nat.le_of_ble_eq_true rfl) (pm_fit_int _) cd_f385 (kk _ rfl (ci_put hI (cf_no (by decide +kernel))))
theorem cz_put386 {jj : Nat} (hd : pm_dec pg mi pc = some (.putfield jj)) (hl : pm_put pg mi jj = some (9, 2, .int)) (hI : CI f A R) (h1 : 0 ≤ x.toInt) (h2 : x.toInt ≤ 7) (kk : ∀ f' : Nat → Int32, f' = upf f 386 x → CI f' A R → pmE pg X pg_tyl pg_cl d mi (pc + 3) ls st (cd f' A R wr) Q) : pmE pg X pg_tyl pg_cl d mi pc ls (.int x :: .ref 24 :: st) (cd f A R wr) Q :=
  pe_put hd hl cd_o24 (Nat.le_of_ble_eq_true rfl) (pm_fit_int _) cd_f386 (kk _ rfl (ci_put hI (cf_one (lo := 0) (hi := 7) (by decide +kernel) h1 h2)))
theorem cz_put464 {jj : Nat} (hd : pm_dec pg mi pc = some (.putfield jj)) (hl : pm_put pg mi jj = some (5, 0, .int)) (hI : CI f A R) (h1 : 0 ≤ x.toInt) (h2 : x.toInt ≤ 30) (kk : ∀ f' : Nat → Int32, f' = upf f 464 x → CI f' A R → pmE pg X pg_tyl pg_cl d mi (pc + 3) ls st (cd f' A R wr) Q) : pmE pg X pg_tyl pg_cl d mi pc ls (.int x :: .ref 29 :: st) (cd f A R wr) Q :=
  pe_put hd hl cd_o29 (Nat.le_of_ble_eq_true rfl) (pm_fit_int _) cd_f464 (kk _ rfl (ci_put hI (cf_one (lo := 0) (hi := 30) (by decide +kernel) h1 h2)))
theorem cz_put529 {jj : Nat} (hd : pm_dec pg mi pc = some (.putfield jj)) (hl : pm_put pg mi jj = some (7, 1, .int)) (hI : CI f A R) (kk : ∀ f' : Nat → Int32, f' = upf f 529 x → CI f' A R → pmE pg X pg_tyl pg_cl d mi (pc + 3) ls st (cd f' A R wr) Q) : pmE pg X pg_tyl pg_cl d mi pc ls (.int x :: .ref 33 :: st) (cd f A R wr) Q :=
  pe_put hd hl cd_o33 (Nat.le_of_ble_eq_true rfl) (pm_fit_int _) cd_f529 (kk _ rfl (ci_put hI (cf_no (by decide +kernel))))
theorem cz_put530 {jj : Nat} (hd : pm_dec pg mi pc = some (.putfield jj)) (hl : pm_put pg mi jj = some (7, 2, .int)) (hI : CI f A R) (h1 : 0 ≤ x.toInt) (h2 : x.toInt ≤ 37) (kk : ∀ f' : Nat → Int32, f' = upf f 530 x → CI f' A R → pmE pg X pg_tyl pg_cl d mi (pc + 3) ls st (cd f' A R wr) Q) : pmE pg X pg_tyl pg_cl d mi pc ls (.int x :: .ref 33 :: st) (cd f A R wr) Q :=
  pe_put hd hl cd_o33 (Nat.le_of_ble_eq_true rfl) (pm_fit_int _) cd_f530 (kk _ rfl (ci_put hI (cf_one (lo := 0) (hi := 37) (by decide +kernel) h1 h2)))
theorem cz_put737 {jj : Nat} (hd : pm_dec pg mi pc = some (.putfield jj)) (hl : pm_put pg mi jj = some (7, 1, .int)) (hI : CI f A R) (kk : ∀ f' : Nat → Int32, f' = upf f 737 x → CI f' A R → pmE pg X pg_tyl pg_cl d mi (pc + 3) ls st (cd f' A R wr) Q) : pmE pg X pg_tyl pg_cl d mi pc ls (.int x :: .ref 46 :: st) (cd f A R wr) Q :=
  pe_put hd hl cd_o46 (Nat.le_of_ble_eq_true rfl) (pm_fit_int _) cd_f737 (kk _ rfl (ci_put hI (cf_no (by decide +kernel))))
theorem cz_put738 {jj : Nat} (hd : pm_dec pg mi pc = some (.putfield jj)) (hl : pm_put pg mi jj = some (7, 2, .int)) (hI : CI f A R) (h1 : 0 ≤ x.toInt) (h2 : x.toInt ≤ 37) (kk : ∀ f' : Nat → Int32, f' = upf f 738 x → CI f' A R → pmE pg X pg_tyl pg_cl d mi (pc + 3) ls st (cd f' A R wr) Q) : pmE pg X pg_tyl pg_cl d mi pc ls (.int x :: .ref 46 :: st) (cd f A R wr) Q :=
  pe_put hd hl cd_o46 (Nat.le_of_ble_eq_true rfl) (pm_fit_int _) cd_f738 (kk _ rfl (ci_put hI (cf_one (lo := 0) (hi := 37) (by decide +kernel) h1 h2)))
theorem cz_put881 {jj : Nat} (hd : pm_dec pg mi pc = some (.putfield jj)) (hl : pm_put pg mi jj = some (6, 1, .int)) (hI : CI f A R) (kk : ∀ f' : Nat → Int32, f' = upf f 881 x → CI f' A R → pmE pg X pg_tyl pg_cl d mi (pc + 3) ls st (cd f' A R wr) Q) : pmE pg X pg_tyl pg_cl d mi pc ls (.int x :: .ref 55 :: st) (cd f A R wr) Q :=
  pe_put hd hl cd_o55 (Nat.le_of_ble_eq_true rfl) (pm_fit_int _) cd_f881 (kk _ rfl (ci_put hI (cf_no (by decide +kernel))))
theorem cz_put882 {jj : Nat} (hd : pm_dec pg mi pc = some (.putfield jj)) (hl : pm_put pg mi jj = some (6, 2, .int)) (hI : CI f A R) (kk : ∀ f' : Nat → Int32, f' = upf f 882 x → CI f' A R → pmE pg X pg_tyl pg_cl d mi (pc + 3) ls st (cd f' A R wr) Q) : pmE pg X pg_tyl pg_cl d mi pc ls (.int x :: .ref 55 :: st) (cd f A R wr) Q :=
  pe_put hd hl cd_o55 (Nat.le_of_ble_eq_true rfl) (pm_fit_int _) cd_f882 (kk _ rfl (ci_put hI (cf_no (by decide +kernel))))
theorem cz_put886 {jj : Nat} (hd : pm_dec pg mi pc = some (.putfield jj)) (hl : pm_put pg mi jj = some (6, 6, .int)) (hI : CI f A R) (h1 : 0 ≤ x.toInt) (h2 : x.toInt ≤ 6) (kk : ∀ f' : Nat → Int32, f' = upf f 886 x → CI f' A R → pmE pg X pg_tyl pg_cl d mi (pc + 3) ls st (cd f' A R wr) Q) : pmE pg X pg_tyl pg_cl d mi pc ls (.int x :: .ref 55 :: st) (cd f A R wr) Q :=
  pe_put hd hl cd_o55 (Nat.le_of_ble_eq_true rfl) (pm_fit_int _) cd_f886 (kk _ rfl (ci_put hI (cf_one (lo := 0) (hi := 6) (by decide +kernel) h1 h2)))
theorem cz_put887 {jj : Nat} (hd : pm_dec pg mi pc = some (.putfield jj)) (hl : pm_put pg mi jj = some (6, 7, .int)) (hI : CI f A R) (kk : ∀ f' : Nat → Int32, f' = upf f 887 x → CI f' A R → pmE pg X pg_tyl pg_cl d mi (pc + 3) ls st (cd f' A R wr) Q) : pmE pg X pg_tyl pg_cl d mi pc ls (.int x :: .ref 55 :: st) (cd f A R wr) Q :=
  pe_put hd hl cd_o55 (Nat.le_of_ble_eq_true rfl) (pm_fit_int _) cd_f887 (kk _ rfl (ci_put hI (cf_no (by decide +kernel))))
theorem cz_put1095 {jj : Nat} (hd : pm_dec pg mi pc = some (.putfield jj)) (hl : pm_put pg mi jj = some (10, 7, .int)) (hI : CI f A R) (h1 : 0 ≤ x.toInt) (h2 : x.toInt ≤ 128) (kk : ∀ f' : Nat → Int32, f' = upf f 1095 x → CI f' A R → pmE pg X pg_tyl pg_cl d mi (pc + 3) ls st (cd f' A R wr) Q) : pmE pg X pg_tyl pg_cl d mi pc ls (.int x :: .ref 68 :: st) (cd f A R wr) Q :=
  pe_put hd hl cd_o68 (Nat.le_of_ble_eq_true rfl) (pm_fit_int _) cd_f1095 (kk _ rfl (ci_put hI (cf_one (lo := 0) (hi := 128) (by decide +kernel) h1 h2)))
theorem cz_put1096 {jj : Nat} (hd : pm_dec pg mi pc = some (.putfield jj)) (hl : pm_put pg mi jj = some (10, 8, .int)) (hI : CI f A R) (kk : ∀ f' : Nat → Int32, f' = upf f 1096 x → CI f' A R → pmE pg X pg_tyl pg_cl d mi (pc + 3) ls st (cd f' A R wr) Q) : pmE pg X pg_tyl pg_cl d mi pc ls (.int x :: .ref 68 :: st) (cd f A R wr) Q :=
  pe_put hd hl cd_o68 (Nat.le_of_ble_eq_true rfl) (pm_fit_int _) cd_f1096 (kk _ rfl (ci_put hI (cf_no (by decide +kernel))))
theorem cz_put1328 {jj : Nat} (hd : pm_dec pg mi pc = some (.putfield jj)) (hl : pm_put pg mi jj = some (3, 0, .int)) (hI : CI f A R) (kk : ∀ f' : Nat → Int32, f' = upf f 1328 x → CI f' A R → pmE pg X pg_tyl pg_cl d mi (pc + 3) ls st (cd f' A R wr) Q) : pmE pg X pg_tyl pg_cl d mi pc ls (.int x :: .ref 83 :: st) (cd f A R wr) Q :=
  pe_put hd hl cd_o83 (Nat.le_of_ble_eq_true rfl) (pm_fit_int _) cd_f1328 (kk _ rfl (ci_put hI (cf_no (by decide +kernel))))
theorem cz_put1329 {jj : Nat} (hd : pm_dec pg mi pc = some (.putfield jj)) (hl : pm_put pg mi jj = some (3, 1, .int)) (hI : CI f A R) (kk : ∀ f' : Nat → Int32, f' = upf f 1329 x → CI f' A R → pmE pg X pg_tyl pg_cl d mi (pc + 3) ls st (cd f' A R wr) Q) : pmE pg X pg_tyl pg_cl d mi pc ls (.int x :: .ref 83 :: st) (cd f A R wr) Q :=
  pe_put hd hl cd_o83 (Nat.le_of_ble_eq_true rfl) (pm_fit_int _) cd_f1329 (kk _ rfl (ci_put hI (cf_no (by decide +kernel))))
theorem cz_put1360 {jj : Nat} (hd : pm_dec pg mi pc = some (.putfield jj)) (hl : pm_put pg mi jj = some (2, 0, .int)) (hI : CI f A R) (kk : ∀ f' : Nat → Int32, f' = upf f 1360 x → CI f' A R → pmE pg X pg_tyl pg_cl d mi (pc + 3) ls st (cd f' A R wr) Q) : pmE pg X pg_tyl pg_cl d mi pc ls (.int x :: .ref 85 :: st) (cd f A R wr) Q :=
  pe_put hd hl cd_o85 (Nat.le_of_ble_eq_true rfl) (pm_fit_int _) cd_f1360 (kk _ rfl (ci_put hI (cf_no (by decide +kernel))))
theorem cz_put1361 {jj : Nat} (hd : pm_dec pg mi pc = some (.putfield jj)) (hl : pm_put pg mi jj = some (2, 1, .int)) (hI : CI f A R) (kk : ∀ f' : Nat → Int32, f' = upf f 1361 x → CI f' A R → pmE pg X pg_tyl pg_cl d mi (pc + 3) ls st (cd f' A R wr) Q) : pmE pg X pg_tyl pg_cl d mi pc ls (.int x :: .ref 85 :: st) (cd f A R wr) Q :=
  pe_put hd hl cd_o85 (Nat.le_of_ble_eq_true rfl) (pm_fit_int _) cd_f1361 (kk _ rfl (ci_put hI (cf_no (by decide +kernel))))
theorem cz_put1362 {jj : Nat} (hd : pm_dec pg mi pc = some (.putfield jj)) (hl : pm_put pg mi jj = some (2, 2, .int)) (hI : CI f A R) (kk : ∀ f' : Nat → Int32, f' = upf f 1362 x → CI f' A R → pmE pg X pg_tyl pg_cl d mi (pc + 3) ls st (cd f' A R wr) Q) : pmE pg X pg_tyl pg_cl d mi pc ls (.int x :: .ref 85 :: st) (cd f A R wr) Q :=
  pe_put hd hl cd_o85 (Nat.le_of_ble_eq_true rfl) (pm_fit_int _) cd_f1362 (kk _ rfl (ci_put hI (cf_no (by decide +kernel))))
theorem cz_put1394 {jj : Nat} (hd : pm_dec pg mi pc = some (.putfield jj)) (hl : pm_put pg mi jj = some (8, 2, .int)) (hI : CI f A R) (h1 : 0 ≤ x.toInt) (h2 : x.toInt ≤ 2) (kk : ∀ f' : Nat → Int32, f' = upf f 1394 x → CI f' A R → pmE pg X pg_tyl pg_cl d mi (pc + 3) ls st (cd f' A R wr) Q) : pmE pg X pg_tyl pg_cl d mi pc ls (.int x :: .ref 87 :: st) (cd f A R wr) Q :=
  pe_put hd hl cd_o87 (Nat.le_of_ble_eq_true rfl) (pm_fit_int _) cd_f1394 (kk _ rfl (ci_put hI (cf_one (lo := 0) (hi := 2) (by decide +kernel) h1 h2)))
theorem cz_put1395 {jj : Nat} (hd : pm_dec pg mi pc = some (.putfield jj)) (hl : pm_put pg mi jj = some (8, 3, .int)) (hI : CI f A R) (h1 : 0 ≤ x.toInt) (h2 : x.toInt ≤ 3) (kk : ∀ f' : Nat → Int32, f' = upf f 1395 x → CI f' A R → pmE pg X pg_tyl pg_cl d mi (pc + 3) ls st (cd f' A R wr) Q) : pmE pg X pg_tyl pg_cl d mi pc ls (.int x :: .ref 87 :: st) (cd f A R wr) Q :=
  pe_put hd hl cd_o87 (Nat.le_of_ble_eq_true rfl) (pm_fit_int _) cd_f1395 (kk _ rfl (ci_put hI (cf_one (lo := 0) (hi := 3) (by decide +kernel) h1 h2)))
theorem cz_put1397 {jj : Nat} (hd : pm_dec pg mi pc = some (.putfield jj)) (hl : pm_put pg mi jj = some (8, 5, .int)) (hI : CI f A R) (h1 : 0 ≤ x.toInt) (h2 : x.toInt ≤ 600) (kk : ∀ f' : Nat → Int32, f' = upf f 1397 x → CI f' A R → pmE pg X pg_tyl pg_cl d mi (pc + 3) ls st (cd f' A R wr) Q) : pmE pg X pg_tyl pg_cl d mi pc ls (.int x :: .ref 87 :: st) (cd f A R wr) Q :=
  pe_put hd hl cd_o87 (Nat.le_of_ble_eq_true rfl) (pm_fit_int _) cd_f1397 (kk _ rfl (ci_put hI (cf_one (lo := 0) (hi := 600) (by decide +kernel) h1 h2)))
theorem cz_put1398 {jj : Nat} (hd : pm_dec pg mi pc = some (.putfield jj)) (hl : pm_put pg mi jj = some (8, 6, .int)) (hI : CI f A R) (kk : ∀ f' : Nat → Int32, f' = upf f 1398 x → CI f' A R → pmE pg X pg_tyl pg_cl d mi (pc + 3) ls st (cd f' A R wr) Q) : pmE pg X pg_tyl pg_cl d mi pc ls (.int x :: .ref 87 :: st) (cd f A R wr) Q :=
  pe_put hd hl cd_o87 (Nat.le_of_ble_eq_true rfl) (pm_fit_int _) cd_f1398 (kk _ rfl (ci_put hI (cf_no (by decide +kernel))))
theorem cz_put1399 {jj : Nat} (hd : pm_dec pg mi pc = some (.putfield jj)) (hl : pm_put pg mi jj = some (8, 7, .int)) (hI : CI f A R) (kk : ∀ f' : Nat → Int32, f' = upf f 1399 x → CI f' A R → pmE pg X pg_tyl pg_cl d mi (pc + 3) ls st (cd f' A R wr) Q) : pmE pg X pg_tyl pg_cl d mi pc ls (.int x :: .ref 87 :: st) (cd f A R wr) Q :=
  pe_put hd hl cd_o87 (Nat.le_of_ble_eq_true rfl) (pm_fit_int _) cd_f1399 (kk _ rfl (ci_put hI (cf_no (by decide +kernel))))
theorem cz_put1456 {jj : Nat} (hd : pm_dec pg mi pc = some (.putfield jj)) (hl : pm_put pg mi jj = some (9, 0, .int)) (hI : CI f A R) (h1 : 0 ≤ x.toInt) (h2 : x.toInt ≤ 9) (kk : ∀ f' : Nat → Int32, f' = upf f 1456 x → CI f' A R → pmE pg X pg_tyl pg_cl d mi (pc + 3) ls st (cd f' A R wr) Q) : pmE pg X pg_tyl pg_cl d mi pc ls (.int x :: .ref 91 :: st) (cd f A R wr) Q :=
  pe_put hd hl cd_o91 (Nat.le_of_ble_eq_true rfl) (pm_fit_int _) cd_f1456 (kk _ rfl (ci_put hI (cf_one (lo := 0) (hi := 9) (by decide +kernel) h1 h2)))
theorem cz_put1457 {jj : Nat} (hd : pm_dec pg mi pc = some (.putfield jj)) (hl : pm_put pg mi jj = some (9, 1, .int)) (hI : CI f A R) (kk : ∀ f' : Nat → Int32, f' = upf f 1457 x → CI f' A R → pmE pg X pg_tyl pg_cl d mi (pc + 3) ls st (cd f' A R wr) Q) : pmE pg X pg_tyl pg_cl d mi pc ls (.int x :: .ref 91 :: st) (cd f A R wr) Q :=
  pe_put hd hl cd_o91 (Nat.le_of_ble_eq_true rfl) (pm_fit_int _) cd_f1457 (kk _ rfl (ci_put hI (cf_no (by decide +kernel))))
theorem cz_put1458 {jj : Nat} (hd : pm_dec pg mi pc = some (.putfield jj)) (hl : pm_put pg mi jj = some (9, 2, .int)) (hI : CI f A R) (h1 : 0 ≤ x.toInt) (h2 : x.toInt ≤ 7) (kk : ∀ f' : Nat → Int32, f' = upf f 1458 x → CI f' A R → pmE pg X pg_tyl pg_cl d mi (pc + 3) ls st (cd f' A R wr) Q) : pmE pg X pg_tyl pg_cl d mi pc ls (.int x :: .ref 91 :: st) (cd f A R wr) Q :=
  pe_put hd hl cd_o91 (Nat.le_of_ble_eq_true rfl) (pm_fit_int _) cd_f1458 (kk _ rfl (ci_put hI (cf_one (lo := 0) (hi := 7) (by decide +kernel) h1 h2)))
theorem cz_put1536 {jj : Nat} (hd : pm_dec pg mi pc = some (.putfield jj)) (hl : pm_put pg mi jj = some (9, 0, .int)) (hI : CI f A R) (h1 : 0 ≤ x.toInt) (h2 : x.toInt ≤ 9) (kk : ∀ f' : Nat → Int32, f' = upf f 1536 x → CI f' A R → pmE pg X pg_tyl pg_cl d mi (pc + 3) ls st (cd f' A R wr) Q) : pmE pg X pg_tyl pg_cl d mi pc ls (.int x :: .ref 96 :: st) (cd f A R wr) Q :=
  pe_put hd hl cd_o96 (Nat.le_of_ble_eq_true rfl) (pm_fit_int _) cd_f1536 (kk _ rfl (ci_put hI (cf_one (lo := 0) (hi := 9) (by decide +kernel) h1 h2)))
theorem cz_put1537 {jj : Nat} (hd : pm_dec pg mi pc = some (.putfield jj)) (hl : pm_put pg mi jj = some (9, 1, .int)) (hI : CI f A R) (kk : ∀ f' : Nat → Int32, f' = upf f 1537 x → CI f' A R → pmE pg X pg_tyl pg_cl d mi (pc + 3) ls st (cd f' A R wr) Q) : pmE pg X pg_tyl pg_cl d mi pc ls (.int x :: .ref 96 :: st) (cd f A R wr) Q :=
  pe_put hd hl cd_o96 (Nat.le_of_ble_eq_true rfl) (pm_fit_int _) cd_f1537 (kk _ rfl (ci_put hI (cf_no (by decide +kernel))))
theorem cz_put1538 {jj : Nat} (hd : pm_dec pg mi pc = some (.putfield jj)) (hl : pm_put pg mi jj = some (9, 2, .int)) (hI : CI f A R) (h1 : 0 ≤ x.toInt) (h2 : x.toInt ≤ 7) (kk : ∀ f' : Nat → Int32, f' = upf f 1538 x → CI f' A R → pmE pg X pg_tyl pg_cl d mi (pc + 3) ls st (cd f' A R wr) Q) : pmE pg X pg_tyl pg_cl d mi pc ls (.int x :: .ref 96 :: st) (cd f A R wr) Q :=
  pe_put hd hl cd_o96 (Nat.le_of_ble_eq_true rfl) (pm_fit_int _) cd_f1538 (kk _ rfl (ci_put hI (cf_one (lo := 0) (hi := 7) (by decide +kernel) h1 h2)))
theorem cz_put1616 {jj : Nat} (hd : pm_dec pg mi pc = some (.putfield jj)) (hl : pm_put pg mi jj = some (5, 0, .int)) (hI : CI f A R) (h1 : 0 ≤ x.toInt) (h2 : x.toInt ≤ 30) (kk : ∀ f' : Nat → Int32, f' = upf f 1616 x → CI f' A R → pmE pg X pg_tyl pg_cl d mi (pc + 3) ls st (cd f' A R wr) Q) : pmE pg X pg_tyl pg_cl d mi pc ls (.int x :: .ref 101 :: st) (cd f A R wr) Q :=
  pe_put hd hl cd_o101 (Nat.le_of_ble_eq_true rfl) (pm_fit_int _) cd_f1616 (kk _ rfl (ci_put hI (cf_one (lo := 0) (hi := 30) (by decide +kernel) h1 h2)))
theorem cz_put1648 {jj : Nat} (hd : pm_dec pg mi pc = some (.putfield jj)) (hl : pm_put pg mi jj = some (5, 0, .int)) (hI : CI f A R) (h1 : 0 ≤ x.toInt) (h2 : x.toInt ≤ 30) (kk : ∀ f' : Nat → Int32, f' = upf f 1648 x → CI f' A R → pmE pg X pg_tyl pg_cl d mi (pc + 3) ls st (cd f' A R wr) Q) : pmE pg X pg_tyl pg_cl d mi pc ls (.int x :: .ref 103 :: st) (cd f A R wr) Q :=
  pe_put hd hl cd_o103 (Nat.le_of_ble_eq_true rfl) (pm_fit_int _) cd_f1648 (kk _ rfl (ci_put hI (cf_one (lo := 0) (hi := 30) (by decide +kernel) h1 h2)))
theorem cz_put1680 {jj : Nat} (hd : pm_dec pg mi pc = some (.putfield jj)) (hl : pm_put pg mi jj = some (5, 0, .int)) (hI : CI f A R) (h1 : 0 ≤ x.toInt) (h2 : x.toInt ≤ 30) (kk : ∀ f' : Nat → Int32, f' = upf f 1680 x → CI f' A R → pmE pg X pg_tyl pg_cl d mi (pc + 3) ls st (cd f' A R wr) Q) : pmE pg X pg_tyl pg_cl d mi pc ls (.int x :: .ref 105 :: st) (cd f A R wr) Q :=
  pe_put hd hl cd_o105 (Nat.le_of_ble_eq_true rfl) (pm_fit_int _) cd_f1680 (kk _ rfl (ci_put hI (cf_one (lo := 0) (hi := 30) (by decide +kernel) h1 h2)))
theorem cz_put1714 {jj : Nat} (hd : pm_dec pg mi pc = some (.putfield jj)) (hl : pm_put pg mi jj = some (8, 2, .int)) (hI : CI f A R) (h1 : 0 ≤ x.toInt) (h2 : x.toInt ≤ 2) (kk : ∀ f' : Nat → Int32, f' = upf f 1714 x → CI f' A R → pmE pg X pg_tyl pg_cl d mi (pc + 3) ls st (cd f' A R wr) Q) : pmE pg X pg_tyl pg_cl d mi pc ls (.int x :: .ref 107 :: st) (cd f A R wr) Q :=
  pe_put hd hl cd_o107 (Nat.le_of_ble_eq_true rfl) (pm_fit_int _) cd_f1714 (kk _ rfl (ci_put hI (cf_one (lo := 0) (hi := 2) (by decide +kernel) h1 h2)))
theorem cz_put1715 {jj : Nat} (hd : pm_dec pg mi pc = some (.putfield jj)) (hl : pm_put pg mi jj = some (8, 3, .int)) (hI : CI f A R) (h1 : 0 ≤ x.toInt) (h2 : x.toInt ≤ 3) (kk : ∀ f' : Nat → Int32, f' = upf f 1715 x → CI f' A R → pmE pg X pg_tyl pg_cl d mi (pc + 3) ls st (cd f' A R wr) Q) : pmE pg X pg_tyl pg_cl d mi pc ls (.int x :: .ref 107 :: st) (cd f A R wr) Q :=
  pe_put hd hl cd_o107 (Nat.le_of_ble_eq_true rfl) (pm_fit_int _) cd_f1715 (kk _ rfl (ci_put hI (cf_one (lo := 0) (hi := 3) (by decide +kernel) h1 h2)))
theorem cz_put1717 {jj : Nat} (hd : pm_dec pg mi pc = some (.putfield jj)) (hl : pm_put pg mi jj = some (8, 5, .int)) (hI : CI f A R) (h1 : 0 ≤ x.toInt) (h2 : x.toInt ≤ 600) (kk : ∀ f' : Nat → Int32, f' = upf f 1717 x → CI f' A R → pmE pg X pg_tyl pg_cl d mi (pc + 3) ls st (cd f' A R wr) Q) : pmE pg X pg_tyl pg_cl d mi pc ls (.int x :: .ref 107 :: st) (cd f A R wr) Q :=
  pe_put hd hl cd_o107 (Nat.le_of_ble_eq_true rfl) (pm_fit_int _) cd_f1717 (kk _ rfl (ci_put hI (cf_one (lo := 0) (hi := 600) (by decide +kernel) h1 h2)))
theorem cz_put1718 {jj : Nat} (hd : pm_dec pg mi pc = some (.putfield jj)) (hl : pm_put pg mi jj = some (8, 6, .int)) (hI : CI f A R) (kk : ∀ f' : Nat → Int32, f' = upf f 1718 x → CI f' A R → pmE pg X pg_tyl pg_cl d mi (pc + 3) ls st (cd f' A R wr) Q) : pmE pg X pg_tyl pg_cl d mi pc ls (.int x :: .ref 107 :: st) (cd f A R wr) Q :=
  pe_put hd hl cd_o107 (Nat.le_of_ble_eq_true rfl) (pm_fit_int _) cd_f1718 (kk _ rfl (ci_put hI (cf_no (by decide +kernel))))
theorem cz_put1719 {jj : Nat} (hd : pm_dec pg mi pc = some (.putfield jj)) (hl : pm_put pg mi jj = some (8, 7, .int)) (hI : CI f A R) (kk : ∀ f' : Nat → Int32, f' = upf f 1719 x → CI f' A R → pmE pg X pg_tyl pg_cl d mi (pc + 3) ls st (cd f' A R wr) Q) : pmE pg X pg_tyl pg_cl d mi pc ls (.int x :: .ref 107 :: st) (cd f A R wr) Q :=
  pe_put hd hl cd_o107 (Nat.le_of_ble_eq_true rfl) (pm_fit_int _) cd_f1719 (kk _ rfl (ci_put hI (cf_no (by decide +kernel))))
theorem cz_put1776 {jj : Nat} (hd : pm_dec pg mi pc = some (.putfield jj)) (hl : pm_put pg mi jj = some (9, 0, .int)) (hI : CI f A R) (h1 : 0 ≤ x.toInt) (h2 : x.toInt ≤ 9) (kk : ∀ f' : Nat → Int32, f' = upf f 1776 x → CI f' A R → pmE pg X pg_tyl pg_cl d mi (pc + 3) ls st (cd f' A R wr) Q) : pmE pg X pg_tyl pg_cl d mi pc ls (.int x :: .ref 111 :: st) (cd f A R wr) Q :=
  pe_put hd hl cd_o111 (Nat.le_of_ble_eq_true rfl) (pm_fit_int _) cd_f1776 (kk _ rfl (ci_put hI (cf_one (lo := 0) (hi := 9) (by decide +kernel) h1 h2)))
theorem cz_put1777 {jj : Nat} (hd : pm_dec pg mi pc = some (.putfield jj)) (hl : pm_put pg mi jj = some (9, 1, .int)) (hI : CI f A R) (kk : ∀ f' : Nat → Int32, f' = upf f 1777 x → CI f' A R → pmE pg X pg_tyl pg_cl d mi (pc + 3) ls st (cd f' A R wr) Q) : pmE pg X pg_tyl pg_cl d mi pc ls (.int x :: .ref 111 :: st) (cd f A R wr) Q :=
  pe_put hd hl cd_o111 (Nat.le_of_ble_eq_true rfl) (pm_fit_int _) cd_f1777 (kk _ rfl (ci_put hI (cf_no (by decide +kernel))))
theorem cz_put1778 {jj : Nat} (hd : pm_dec pg mi pc = some (.putfield jj)) (hl : pm_put pg mi jj = some (9, 2, .int)) (hI : CI f A R) (h1 : 0 ≤ x.toInt) (h2 : x.toInt ≤ 7) (kk : ∀ f' : Nat → Int32, f' = upf f 1778 x → CI f' A R → pmE pg X pg_tyl pg_cl d mi (pc + 3) ls st (cd f' A R wr) Q) : pmE pg X pg_tyl pg_cl d mi pc ls (.int x :: .ref 111 :: st) (cd f A R wr) Q :=
  pe_put hd hl cd_o111 (Nat.le_of_ble_eq_true rfl) (pm_fit_int _) cd_f1778 (kk _ rfl (ci_put hI (cf_one (lo := 0) (hi := 7) (by decide +kernel) h1 h2)))
theorem cz_put1856 {jj : Nat} (hd : pm_dec pg mi pc = some (.putfield jj)) (hl : pm_put pg mi jj = some (9, 0, .int)) (hI : CI f A R) (h1 : 0 ≤ x.toInt) (h2 : x.toInt ≤ 9) (kk : ∀ f' : Nat → Int32, f' = upf f 1856 x → CI f' A R → pmE pg X pg_tyl pg_cl d mi (pc + 3) ls st (cd f' A R wr) Q) : pmE pg X pg_tyl pg_cl d mi pc ls (.int x :: .ref 116 :: st) (cd f A R wr) Q :=
  pe_put hd hl cd_o116 (Nat.le_of_ble_eq_true rfl) (pm_fit_int _) cd_f1856 (kk _ rfl (ci_put hI (cf_one (lo := 0) (hi := 9) (by decide +kernel) h1 h2)))
theorem cz_put1857 {jj : Nat} (hd : pm_dec pg mi pc = some (.putfield jj)) (hl : pm_put pg mi jj = some (9, 1, .int)) (hI : CI f A R) (kk : ∀ f' : Nat → Int32, f' = upf f 1857 x → CI f' A R → pmE pg X pg_tyl pg_cl d mi (pc + 3) ls st (cd f' A R wr) Q) : pmE pg X pg_tyl pg_cl d mi pc ls (.int x :: .ref 116 :: st) (cd f A R wr) Q :=
  pe_put hd hl cd_o116 (Nat.le_of_ble_eq_true rfl) (pm_fit_int _) cd_f1857 (kk _ rfl (ci_put hI (cf_no (by decide +kernel))))
theorem cz_put1858 {jj : Nat} (hd : pm_dec pg mi pc = some (.putfield jj)) (hl : pm_put pg mi jj = some (9, 2, .int)) (hI : CI f A R) (h1 : 0 ≤ x.toInt) (h2 : x.toInt ≤ 7) (kk : ∀ f' : Nat → Int32, f' = upf f 1858 x → CI f' A R → pmE pg X pg_tyl pg_cl d mi (pc + 3) ls st (cd f' A R wr) Q) : pmE pg X pg_tyl pg_cl d mi pc ls (.int x :: .ref 116 :: st) (cd f A R wr) Q :=
  pe_put hd hl cd_o116 (Nat.le_of_ble_eq_true rfl) (pm_fit_int _) cd_f1858 (kk _ rfl (ci_put hI (cf_one (lo := 0) (hi := 7) (by decide +kernel) h1 h2)))
theorem cz_put1936 {jj : Nat} (hd : pm_dec pg mi pc = some (.putfield jj)) (hl : pm_put pg mi jj = some (5, 0, .int)) (hI : CI f A R) (h1 : 0 ≤ x.toInt) (h2 : x.toInt ≤ 30) (kk : ∀ f' : Nat → Int32, f' = upf f 1936 x → CI f' A R → pmE pg X pg_tyl pg_cl d mi (pc + 3) ls st (cd f' A R wr) Q) : pmE pg X pg_tyl pg_cl d mi pc ls (.int x :: .ref 121 :: st) (cd f A R wr) Q :=
  pe_put hd hl cd_o121 (Nat.le_of_ble_eq_true rfl) (pm_fit_int _) cd_f1936 (kk _ rfl (ci_put hI (cf_one (lo := 0) (hi := 30) (by decide +kernel) h1 h2)))
theorem cz_put1968 {jj : Nat} (hd : pm_dec pg mi pc = some (.putfield jj)) (hl : pm_put pg mi jj = some (5, 0, .int)) (hI : CI f A R) (h1 : 0 ≤ x.toInt) (h2 : x.toInt ≤ 30) (kk : ∀ f' : Nat → Int32, f' = upf f 1968 x → CI f' A R → pmE pg X pg_tyl pg_cl d mi (pc + 3) ls st (cd f' A R wr) Q) : pmE pg X pg_tyl pg_cl d mi pc ls (.int x :: .ref 123 :: st) (cd f A R wr) Q :=
  pe_put hd hl cd_o123 (Nat.le_of_ble_eq_true rfl) (pm_fit_int _) cd_f1968 (kk _ rfl (ci_put hI (cf_one (lo := 0) (hi := 30) (by decide +kernel) h1 h2)))
theorem cz_put2000 {jj : Nat} (hd : pm_dec pg mi pc = some (.putfield jj)) (hl : pm_put pg mi jj = some (5, 0, .int)) (hI : CI f A R) (h1 : 0 ≤ x.toInt) (h2 : x.toInt ≤ 30) (kk : ∀ f' : Nat → Int32, f' = upf f 2000 x → CI f' A R → pmE pg X pg_tyl pg_cl d mi (pc + 3) ls st (cd f' A R wr) Q) : pmE pg X pg_tyl pg_cl d mi pc ls (.int x :: .ref 125 :: st) (cd f A R wr) Q :=
  pe_put hd hl cd_o125 (Nat.le_of_ble_eq_true rfl) (pm_fit_int _) cd_f2000 (kk _ rfl (ci_put hI (cf_one (lo := 0) (hi := 30) (by decide +kernel) h1 h2)))
theorem cz_put2034 {jj : Nat} (hd : pm_dec pg mi pc = some (.putfield jj)) (hl : pm_put pg mi jj = some (8, 2, .int)) (hI : CI f A R) (h1 : 0 ≤ x.toInt) (h2 : x.toInt ≤ 2) (kk : ∀ f' : Nat → Int32, f' = upf f 2034 x → CI f' A R → pmE pg X pg_tyl pg_cl d mi (pc + 3) ls st (cd f' A R wr) Q) : pmE pg X pg_tyl pg_cl d mi pc ls (.int x :: .ref 127 :: st) (cd f A R wr) Q :=
  pe_put hd hl cd_o127 (Nat.le_of_ble_eq_true rfl) (pm_fit_int _) cd_f2034 (kk _ rfl (ci_put hI (cf_one (lo := 0) (hi := 2) (by decide +kernel) h1 h2)))
theorem cz_put2035 {jj : Nat} (hd : pm_dec pg mi pc = some (.putfield jj)) (hl : pm_put pg mi jj = some (8, 3, .int)) (hI : CI f A R) (h1 : 0 ≤ x.toInt) (h2 : x.toInt ≤ 3) (kk : ∀ f' : Nat → Int32, f' = upf f 2035 x → CI f' A R → pmE pg X pg_tyl pg_cl d mi (pc + 3) ls st (cd f' A R wr) Q) : pmE pg X pg_tyl pg_cl d mi pc ls (.int x :: .ref 127 :: st) (cd f A R wr) Q :=
  pe_put hd hl cd_o127 (Nat.le_of_ble_eq_true rfl) (pm_fit_int _) cd_f2035 (kk _ rfl (ci_put hI (cf_one (lo := 0) (hi := 3) (by decide +kernel) h1 h2)))
theorem cz_put2037 {jj : Nat} (hd : pm_dec pg mi pc = some (.putfield jj)) (hl : pm_put pg mi jj = some (8, 5, .int)) (hI : CI f A R) (h1 : 0 ≤ x.toInt) (h2 : x.toInt ≤ 600) (kk : ∀ f' : Nat → Int32, f' = upf f 2037 x → CI f' A R → pmE pg X pg_tyl pg_cl d mi (pc + 3) ls st (cd f' A R wr) Q) : pmE pg X pg_tyl pg_cl d mi pc ls (.int x :: .ref 127 :: st) (cd f A R wr) Q :=
  pe_put hd hl cd_o127 (Nat.le_of_ble_eq_true rfl) (pm_fit_int _) cd_f2037 (kk _ rfl (ci_put hI (cf_one (lo := 0) (hi := 600) (by decide +kernel) h1 h2)))
theorem cz_put2038 {jj : Nat} (hd : pm_dec pg mi pc = some (.putfield jj)) (hl : pm_put pg mi jj = some (8, 6, .int)) (hI : CI f A R) (kk : ∀ f' : Nat → Int32, f' = upf f 2038 x → CI f' A R → pmE pg X pg_tyl pg_cl d mi (pc + 3) ls st (cd f' A R wr) Q) : pmE pg X pg_tyl pg_cl d mi pc ls (.int x :: .ref 127 :: st) (cd f A R wr) Q :=
  pe_put hd hl cd_o127 (Nat.le_of_ble_eq_true rfl) (pm_fit_int _) cd_f2038 (kk _ rfl (ci_put hI (cf_no (by decide +kernel))))
theorem cz_put2039 {jj : Nat} (hd : pm_dec pg mi pc = some (.putfield jj)) (hl : pm_put pg mi jj = some (8, 7, .int)) (hI : CI f A R) (kk : ∀ f' : Nat → Int32, f' = upf f 2039 x → CI f' A R → pmE pg X pg_tyl pg_cl d mi (pc + 3) ls st (cd f' A R wr) Q) : pmE pg X pg_tyl pg_cl d mi pc ls (.int x :: .ref 127 :: st) (cd f A R wr) Q :=
  pe_put hd hl cd_o127 (Nat.le_of_ble_eq_true rfl) (pm_fit_int _) cd_f2039 (kk _ rfl (ci_put hI (cf_no (by decide +kernel))))
theorem cz_put2096 {jj : Nat} (hd : pm_dec pg mi pc = some (.putfield jj)) (hl : pm_put pg mi jj = some (9, 0, .int)) (hI : CI f A R) (h1 : 0 ≤ x.toInt) (h2 : x.toInt ≤ 9) (kk : ∀ f' : Nat → Int32, f' = upf f 2096 x → CI f' A R → pmE pg X pg_tyl pg_cl d mi (pc + 3) ls st (cd f' A R wr) Q) : pmE pg X pg_tyl pg_cl d mi pc ls (.int x :: .ref 131 :: st) (cd f A R wr) Q :=
  pe_put hd hl cd_o131 (Nat.le_of_ble_eq_true rfl) (pm_fit_int _) cd_f2096 (kk _ rfl (ci_put hI (cf_one (lo := 0) (hi := 9) (by decide +kernel) h1 h2)))
theorem cz_put2097 {jj : Nat} (hd : pm_dec pg mi pc = some (.putfield jj)) (hl : pm_put pg mi jj = some (9, 1, .int)) (hI : CI f A R) (kk : ∀ f' : Nat → Int32, f' = upf f 2097 x → CI f' A R → pmE pg X pg_tyl pg_cl d mi (pc + 3) ls st (cd f' A R wr) Q) : pmE pg X pg_tyl pg_cl d mi pc ls (.int x :: .ref 131 :: st) (cd f A R wr) Q :=
  pe_put hd hl cd_o131 (Nat.le_of_ble_eq_true rfl) (pm_fit_int _) cd_f2097 (kk _ rfl (ci_put hI (cf_no (by decide +kernel))))
theorem cz_put2098 {jj : Nat} (hd : pm_dec pg mi pc = some (.putfield jj)) (hl : pm_put pg mi jj = some (9, 2, .int)) (hI : CI f A R) (h1 : 0 ≤ x.toInt) (h2 : x.toInt ≤ 7) (kk : ∀ f' : Nat → Int32, f' = upf f 2098 x → CI f' A R → pmE pg X pg_tyl pg_cl d mi (pc + 3) ls st (cd f' A R wr) Q) : pmE pg X pg_tyl pg_cl d mi pc ls (.int x :: .ref 131 :: st) (cd f A R wr) Q :=
  pe_put hd hl cd_o131 (Nat.le_of_ble_eq_true rfl) (pm_fit_int _) cd_f2098 (kk _ rfl (ci_put hI (cf_one (lo := 0) (hi := 7) (by decide +kernel) h1 h2)))
theorem cz_put2176 {jj : Nat} (hd : pm_dec pg mi pc = some (.putfield jj)) (hl : pm_put pg mi jj = some (9, 0, .int)) (hI : CI f A R) (h1 : 0 ≤ x.toInt) (h2 : x.toInt ≤ 9) (kk : ∀ f' : Nat → Int32, f' = upf f 2176 x → CI f' A R → pmE pg X pg_tyl pg_cl d mi (pc + 3) ls st (cd f' A R wr) Q) : pmE pg X pg_tyl pg_cl d mi pc ls (.int x :: .ref 136 :: st) (cd f A R wr) Q :=
  pe_put hd hl cd_o136 (Nat.le_of_ble_eq_true rfl) (pm_fit_int _) cd_f2176 (kk _ rfl (ci_put hI (cf_one (lo := 0) (hi := 9) (by decide +kernel) h1 h2)))
theorem cz_put2177 {jj : Nat} (hd : pm_dec pg mi pc = some (.putfield jj)) (hl : pm_put pg mi jj = some (9, 1, .int)) (hI : CI f A R) (kk : ∀ f' : Nat → Int32, f' = upf f 2177 x → CI f' A R → pmE pg X pg_tyl pg_cl d mi (pc + 3) ls st (cd f' A R wr) Q) : pmE pg X pg_tyl pg_cl d mi pc ls (.int x :: .ref 136 :: st) (cd f A R wr) Q :=
  pe_put hd hl cd_o136 (Nat.le_of_ble_eq_true rfl) (pm_fit_int _) cd_f2177 (kk _ rfl (ci_put hI (cf_no (by decide +kernel))))
theorem cz_put2178 {jj : Nat} (hd : pm_dec pg mi pc = some (.putfield jj)) (hl : pm_put pg mi jj = some (9, 2, .int)) (hI : CI f A R) (h1 : 0 ≤ x.toInt) (h2 : x.toInt ≤ 7) (kk : ∀ f' : Nat → Int32, f' = upf f 2178 x → CI f' A R → pmE pg X pg_tyl pg_cl d mi (pc + 3) ls st (cd f' A R wr) Q) : pmE pg X pg_tyl pg_cl d mi pc ls (.int x :: .ref 136 :: st) (cd f A R wr) Q :=
  pe_put hd hl cd_o136 (Nat.le_of_ble_eq_true rfl) (pm_fit_int _) cd_f2178 (kk _ rfl (ci_put hI (cf_one (lo := 0) (hi := 7) (by decide +kernel) h1 h2)))
theorem cz_put2256 {jj : Nat} (hd : pm_dec pg mi pc = some (.putfield jj)) (hl : pm_put pg mi jj = some (5, 0, .int)) (hI : CI f A R) (h1 : 0 ≤ x.toInt) (h2 : x.toInt ≤ 30) (kk : ∀ f' : Nat → Int32, f' = upf f 2256 x → CI f' A R → pmE pg X pg_tyl pg_cl d mi (pc + 3) ls st (cd f' A R wr) Q) : pmE pg X pg_tyl pg_cl d mi pc ls (.int x :: .ref 141 :: st) (cd f A R wr) Q :=
  pe_put hd hl cd_o141 (Nat.le_of_ble_eq_true rfl) (pm_fit_int _) cd_f2256 (kk _ rfl (ci_put hI (cf_one (lo := 0) (hi := 30) (by decide +kernel) h1 h2)))
theorem cz_put2288 {jj : Nat} (hd : pm_dec pg mi pc = some (.putfield jj)) (hl : pm_put pg mi jj = some (5, 0, .int)) (hI : CI f A R) (h1 : 0 ≤ x.toInt) (h2 : x.toInt ≤ 30) (kk : ∀ f' : Nat → Int32, f' = upf f 2288 x → CI f' A R → pmE pg X pg_tyl pg_cl d mi (pc + 3) ls st (cd f' A R wr) Q) : pmE pg X pg_tyl pg_cl d mi pc ls (.int x :: .ref 143 :: st) (cd f A R wr) Q :=
  pe_put hd hl cd_o143 (Nat.le_of_ble_eq_true rfl) (pm_fit_int _) cd_f2288 (kk _ rfl (ci_put hI (cf_one (lo := 0) (hi := 30) (by decide +kernel) h1 h2)))
theorem cz_put2320 {jj : Nat} (hd : pm_dec pg mi pc = some (.putfield jj)) (hl : pm_put pg mi jj = some (5, 0, .int)) (hI : CI f A R) (h1 : 0 ≤ x.toInt) (h2 : x.toInt ≤ 30) (kk : ∀ f' : Nat → Int32, f' = upf f 2320 x → CI f' A R → pmE pg X pg_tyl pg_cl d mi (pc + 3) ls st (cd f' A R wr) Q) : pmE pg X pg_tyl pg_cl d mi pc ls (.int x :: .ref 145 :: st) (cd f A R wr) Q :=
  pe_put hd hl cd_o145 (Nat.le_of_ble_eq_true rfl) (pm_fit_int _) cd_f2320 (kk _ rfl (ci_put hI (cf_one (lo := 0) (hi := 30) (by decide +kernel) h1 h2)))
theorem cz_putR0 {jj : Nat} {ty : FieldType} {v : Value} (hd : pm_dec pg mi pc = some (.putfield jj)) (hl : pm_put pg mi jj = some (7, 0, ty)) (hI : CI f A R) (hfit : pm_fit ty v = true) (hrf : ∃ b : Nat, v = .ref b) (kk : ∀ R' : Nat → Value, R' = upr R 0 v → CI f A R' → pmE pg X pg_tyl pg_cl d mi (pc + 3) ls st (cd f A R' wr) Q) : pmE pg X pg_tyl pg_cl d mi pc ls (v :: .ref 33 :: st) (cd f A R wr) Q :=
  pe_put hd hl cd_o33 (Nat.le_of_ble_eq_true rfl) hfit cd_r0 (kk _ rfl (ci_putR hI (Or.inl ⟨by decide, hrf⟩)))
theorem cz_putR1 {jj : Nat} {ty : FieldType} {v : Value} (hd : pm_dec pg mi pc = some (.putfield jj)) (hl : pm_put pg mi jj = some (7, 0, ty)) (hI : CI f A R) (hfit : pm_fit ty v = true) (hrf : ∃ b : Nat, v = .ref b) (kk : ∀ R' : Nat → Value, R' = upr R 1 v → CI f A R' → pmE pg X pg_tyl pg_cl d mi (pc + 3) ls st (cd f A R' wr) Q) : pmE pg X pg_tyl pg_cl d mi pc ls (v :: .ref 46 :: st) (cd f A R wr) Q :=
  pe_put hd hl cd_o46 (Nat.le_of_ble_eq_true rfl) hfit cd_r1 (kk _ rfl (ci_putR hI (Or.inl ⟨by decide, hrf⟩)))
theorem cz_putR2 {jj : Nat} {ty : FieldType} {v : Value} (hd : pm_dec pg mi pc = some (.putfield jj)) (hl : pm_put pg mi jj = some (6, 0, ty)) (hI : CI f A R) (hfit : pm_fit ty v = true) (hrf : ∃ b : Nat, v = .ref b) (kk : ∀ R' : Nat → Value, R' = upr R 2 v → CI f A R' → pmE pg X pg_tyl pg_cl d mi (pc + 3) ls st (cd f A R' wr) Q) : pmE pg X pg_tyl pg_cl d mi pc ls (v :: .ref 55 :: st) (cd f A R wr) Q :=
  pe_put hd hl cd_o55 (Nat.le_of_ble_eq_true rfl) hfit cd_r2 (kk _ rfl (ci_putR hI (Or.inl ⟨by decide, hrf⟩)))
theorem cz_putR3 {jj : Nat} {ty : FieldType} {v : Value} (hd : pm_dec pg mi pc = some (.putfield jj)) (hl : pm_put pg mi jj = some (10, 0, ty)) (hI : CI f A R) (hfit : pm_fit ty v = true) (hrf : ∃ b : Nat, v = .ref b) (kk : ∀ R' : Nat → Value, R' = upr R 3 v → CI f A R' → pmE pg X pg_tyl pg_cl d mi (pc + 3) ls st (cd f A R' wr) Q) : pmE pg X pg_tyl pg_cl d mi pc ls (v :: .ref 68 :: st) (cd f A R wr) Q :=
  pe_put hd hl cd_o68 (Nat.le_of_ble_eq_true rfl) hfit cd_r3 (kk _ rfl (ci_putR hI (Or.inl ⟨by decide, hrf⟩)))
theorem cz_putR4 {jj : Nat} {ty : FieldType} {v : Value} (hd : pm_dec pg mi pc = some (.putfield jj)) (hl : pm_put pg mi jj = some (4, 3, ty)) (hI : CI f A R) (hfit : pm_fit ty v = true) (hrf : ∃ b : Nat, v = .ref b) (kk : ∀ R' : Nat → Value, R' = upr R 4 v → CI f A R' → pmE pg X pg_tyl pg_cl d mi (pc + 3) ls st (cd f A R' wr) Q) : pmE pg X pg_tyl pg_cl d mi pc ls (v :: .ref 23 :: st) (cd f A R wr) Q :=
  pe_put hd hl cd_o23 (Nat.le_of_ble_eq_true rfl) hfit cd_r4 (kk _ rfl (ci_putR hI (Or.inl ⟨by decide, hrf⟩)))
theorem cz_putR5 {jj : Nat} {ty : FieldType} {v : Value} (hd : pm_dec pg mi pc = some (.putfield jj)) (hl : pm_put pg mi jj = some (6, 8, ty)) (hI : CI f A R) (hfit : pm_fit ty v = true) (hlg : ∃ l : Int64, v = .long l) (kk : ∀ R' : Nat → Value, R' = upr R 5 v → CI f A R' → pmE pg X pg_tyl pg_cl d mi (pc + 3) ls st (cd f A R' wr) Q) : pmE pg X pg_tyl pg_cl d mi pc ls (v :: .ref 55 :: st) (cd f A R wr) Q :=
  pe_put hd hl cd_o55 (Nat.le_of_ble_eq_true rfl) hfit cd_r5 (kk _ rfl (ci_putR hI (Or.inr ⟨rfl, hlg⟩)))
theorem cz_st4 {v : Int32} (hd : pm_dec pg mi pc = some .bastore) (hI : CI f A R) (hx : x.toInt = a) (h0 : 0 ≤ a) (h1 : a < 600) (kk : ∀ A' : Nat → List Int32, A' = upa A 4 ((A 4).set a.toNat (vp_nar .byte v)) → CI f A' R → pmE pg X pg_tyl pg_cl d mi (pc + 1) ls st (cd f A' R wr) Q) : pmE pg X pg_tyl pg_cl d mi pc ls (.int v :: .int x :: .ref 4 :: st) (cd f A R wr) Q :=
  pz_bast hd cd_a4 (cl_4 hI) hx h0 (by show a < ((600 : Nat) : Int); omega) cd_s4 (kk _ rfl (ci_st hI (by rw [cl_4 hI]; omega) (ct_one (kd := 7) (P := fun kd => CT kd a.toNat (vp_nar .byte v).toInt) (by decide +kernel) (nb_rng v))))
theorem cz_st22 {v : Int32} (hd : pm_dec pg mi pc = some .bastore) (hI : CI f A R) (hx : x.toInt = a) (h0 : 0 ≤ a) (h1 : a < 3) (kk : ∀ A' : Nat → List Int32, A' = upa A 22 ((A 22).set a.toNat (vp_nar .boolean v)) → CI f A' R → pmE pg X pg_tyl pg_cl d mi (pc + 1) ls st (cd f A' R wr) Q) : pmE pg X pg_tyl pg_cl d mi pc ls (.int v :: .int x :: .ref 22 :: st) (cd f A R wr) Q :=
  pz_zast hd cd_a22 (cl_22 hI) hx h0 (by show a < ((3 : Nat) : Int); omega) cd_s22 (kk _ rfl (ci_st hI (by rw [cl_22 hI]; omega) (ct_one (kd := 6) (P := fun kd => CT kd a.toNat (vp_nar .boolean v).toInt) (by decide +kernel) (nb_rgz v))))
theorem cz_st25 {v : Int32} (hd : pm_dec pg mi pc = some .iastore) (hI : CI f A R) (hx : x.toInt = a) (h0 : 0 ≤ a) (h1 : a < 81) (kk : ∀ A' : Nat → List Int32, A' = upa A 25 ((A 25).set a.toNat v) → CI f A' R → pmE pg X pg_tyl pg_cl d mi (pc + 1) ls st (cd f A' R wr) Q) : pmE pg X pg_tyl pg_cl d mi pc ls (.int v :: .int x :: .ref 25 :: st) (cd f A R wr) Q :=
  pz_iast hd cd_a25 (cl_25 hI) hx h0 (by show a < ((81 : Nat) : Int); omega) cd_s25 (kk _ rfl (ci_st hI (by rw [cl_25 hI]; omega) (ct_no (by decide +kernel))))
theorem cz_st26 {v : Int32} (hd : pm_dec pg mi pc = some .iastore) (hI : CI f A R) (hx : x.toInt = a) (h0 : 0 ≤ a) (h1 : a < 9) (kk : ∀ A' : Nat → List Int32, A' = upa A 26 ((A 26).set a.toNat v) → CI f A' R → pmE pg X pg_tyl pg_cl d mi (pc + 1) ls st (cd f A' R wr) Q) : pmE pg X pg_tyl pg_cl d mi pc ls (.int v :: .int x :: .ref 26 :: st) (cd f A R wr) Q :=
  pz_iast hd cd_a26 (cl_26 hI) hx h0 (by show a < ((9 : Nat) : Int); omega) cd_s26 (kk _ rfl (ci_st hI (by rw [cl_26 hI]; omega) (ct_no (by decide +kernel))))
theorem cz_st27 {v : Int32} (hd : pm_dec pg mi pc = some .iastore) (hI : CI f A R) (hx : x.toInt = a) (h0 : 0 ≤ a) (h1 : a < 9) (kk : ∀ A' : Nat → List Int32, A' = upa A 27 ((A 27).set a.toNat v) → CI f A' R → pmE pg X pg_tyl pg_cl d mi (pc + 1) ls st (cd f A' R wr) Q) : pmE pg X pg_tyl pg_cl d mi pc ls (.int v :: .int x :: .ref 27 :: st) (cd f A R wr) Q :=
  pz_iast hd cd_a27 (cl_27 hI) hx h0 (by show a < ((9 : Nat) : Int); omega) cd_s27 (kk _ rfl (ci_st hI (by rw [cl_27 hI]; omega) (ct_no (by decide +kernel))))
theorem cz_st30 {v : Int32} (hd : pm_dec pg mi pc = some .iastore) (hI : CI f A R) (hx : x.toInt = a) (h0 : 0 ≤ a) (h1 : a < 270) (kk : ∀ A' : Nat → List Int32, A' = upa A 30 ((A 30).set a.toNat v) → CI f A' R → pmE pg X pg_tyl pg_cl d mi (pc + 1) ls st (cd f A' R wr) Q) : pmE pg X pg_tyl pg_cl d mi pc ls (.int v :: .int x :: .ref 30 :: st) (cd f A R wr) Q :=
  pz_iast hd cd_a30 (cl_30 hI) hx h0 (by show a < ((270 : Nat) : Int); omega) cd_s30 (kk _ rfl (ci_st hI (by rw [cl_30 hI]; omega) (ct_no (by decide +kernel))))
theorem cz_st31 {v : Int32} (hd : pm_dec pg mi pc = some .iastore) (hI : CI f A R) (hx : x.toInt = a) (h0 : 0 ≤ a) (h1 : a < 8) (kk : ∀ A' : Nat → List Int32, A' = upa A 31 ((A 31).set a.toNat v) → CI f A' R → pmE pg X pg_tyl pg_cl d mi (pc + 1) ls st (cd f A' R wr) Q) : pmE pg X pg_tyl pg_cl d mi pc ls (.int v :: .int x :: .ref 31 :: st) (cd f A R wr) Q :=
  pz_iast hd cd_a31 (cl_31 hI) hx h0 (by show a < ((8 : Nat) : Int); omega) cd_s31 (kk _ rfl (ci_st hI (by rw [cl_31 hI]; omega) (ct_no (by decide +kernel))))
theorem cz_st39 {v : Int32} (hd : pm_dec pg mi pc = some .iastore) (hI : CI f A R) (hx : x.toInt = a) (h0 : 0 ≤ a) (h1 : a < 81) (kk : ∀ A' : Nat → List Int32, A' = upa A 39 ((A 39).set a.toNat v) → CI f A' R → pmE pg X pg_tyl pg_cl d mi (pc + 1) ls st (cd f A' R wr) Q) : pmE pg X pg_tyl pg_cl d mi pc ls (.int v :: .int x :: .ref 39 :: st) (cd f A R wr) Q :=
  pz_iast hd cd_a39 (cl_39 hI) hx h0 (by show a < ((81 : Nat) : Int); omega) cd_s39 (kk _ rfl (ci_st hI (by rw [cl_39 hI]; omega) (ct_no (by decide +kernel))))
theorem cz_st40 {v : Int32} (hd : pm_dec pg mi pc = some .iastore) (hI : CI f A R) (hx : x.toInt = a) (h0 : 0 ≤ a) (h1 : a < 370) (hp : CT 1 a.toNat v.toInt) (kk : ∀ A' : Nat → List Int32, A' = upa A 40 ((A 40).set a.toNat v) → CI f A' R → pmE pg X pg_tyl pg_cl d mi (pc + 1) ls st (cd f A' R wr) Q) : pmE pg X pg_tyl pg_cl d mi pc ls (.int v :: .int x :: .ref 40 :: st) (cd f A R wr) Q :=
  pz_iast hd cd_a40 (cl_40 hI) hx h0 (by show a < ((370 : Nat) : Int); omega) cd_s40 (kk _ rfl (ci_st hI (by rw [cl_40 hI]; omega) (ct_one (kd := 1) (P := fun kd => CT kd a.toNat v.toInt) (by decide +kernel) hp)))
theorem cz_st41 {v : Int32} (hd : pm_dec pg mi pc = some .iastore) (hI : CI f A R) (hx : x.toInt = a) (h0 : 0 ≤ a) (h1 : a < 6) (kk : ∀ A' : Nat → List Int32, A' = upa A 41 ((A 41).set a.toNat v) → CI f A' R → pmE pg X pg_tyl pg_cl d mi (pc + 1) ls st (cd f A' R wr) Q) : pmE pg X pg_tyl pg_cl d mi pc ls (.int v :: .int x :: .ref 41 :: st) (cd f A R wr) Q :=
  pz_iast hd cd_a41 (cl_41 hI) hx h0 (by show a < ((6 : Nat) : Int); omega) cd_s41 (kk _ rfl (ci_st hI (by rw [cl_41 hI]; omega) (ct_no (by decide +kernel))))
theorem cz_st43 {v : Int32} (hd : pm_dec pg mi pc = some .iastore) (hI : CI f A R) (hx : x.toInt = a) (h0 : 0 ≤ a) (h1 : a < 81) (kk : ∀ A' : Nat → List Int32, A' = upa A 43 ((A 43).set a.toNat v) → CI f A' R → pmE pg X pg_tyl pg_cl d mi (pc + 1) ls st (cd f A' R wr) Q) : pmE pg X pg_tyl pg_cl d mi pc ls (.int v :: .int x :: .ref 43 :: st) (cd f A R wr) Q :=
  pz_iast hd cd_a43 (cl_43 hI) hx h0 (by show a < ((81 : Nat) : Int); omega) cd_s43 (kk _ rfl (ci_st hI (by rw [cl_43 hI]; omega) (ct_no (by decide +kernel))))
theorem cz_st44 {v : Int32} (hd : pm_dec pg mi pc = some .iastore) (hI : CI f A R) (hx : x.toInt = a) (h0 : 0 ≤ a) (h1 : a < 9) (hp : CT 2 a.toNat v.toInt) (kk : ∀ A' : Nat → List Int32, A' = upa A 44 ((A 44).set a.toNat v) → CI f A' R → pmE pg X pg_tyl pg_cl d mi (pc + 1) ls st (cd f A' R wr) Q) : pmE pg X pg_tyl pg_cl d mi pc ls (.int v :: .int x :: .ref 44 :: st) (cd f A R wr) Q :=
  pz_iast hd cd_a44 (cl_44 hI) hx h0 (by show a < ((9 : Nat) : Int); omega) cd_s44 (kk _ rfl (ci_st hI (by rw [cl_44 hI]; omega) (ct_one (kd := 2) (P := fun kd => CT kd a.toNat v.toInt) (by decide +kernel) hp)))
theorem cz_st45 {v : Int32} (hd : pm_dec pg mi pc = some .iastore) (hI : CI f A R) (hx : x.toInt = a) (h0 : 0 ≤ a) (h1 : a < 9) (hp : CT 3 a.toNat v.toInt) (kk : ∀ A' : Nat → List Int32, A' = upa A 45 ((A 45).set a.toNat v) → CI f A' R → pmE pg X pg_tyl pg_cl d mi (pc + 1) ls st (cd f A' R wr) Q) : pmE pg X pg_tyl pg_cl d mi pc ls (.int v :: .int x :: .ref 45 :: st) (cd f A R wr) Q :=
  pz_iast hd cd_a45 (cl_45 hI) hx h0 (by show a < ((9 : Nat) : Int); omega) cd_s45 (kk _ rfl (ci_st hI (by rw [cl_45 hI]; omega) (ct_one (kd := 3) (P := fun kd => CT kd a.toNat v.toInt) (by decide +kernel) hp)))
theorem cz_st52 {v : Int32} (hd : pm_dec pg mi pc = some .iastore) (hI : CI f A R) (hx : x.toInt = a) (h0 : 0 ≤ a) (h1 : a < 81) (kk : ∀ A' : Nat → List Int32, A' = upa A 52 ((A 52).set a.toNat v) → CI f A' R → pmE pg X pg_tyl pg_cl d mi (pc + 1) ls st (cd f A' R wr) Q) : pmE pg X pg_tyl pg_cl d mi pc ls (.int v :: .int x :: .ref 52 :: st) (cd f A R wr) Q :=
  pz_iast hd cd_a52 (cl_52 hI) hx h0 (by show a < ((81 : Nat) : Int); omega) cd_s52 (kk _ rfl (ci_st hI (by rw [cl_52 hI]; omega) (ct_no (by decide +kernel))))
theorem cz_st53 {v : Int32} (hd : pm_dec pg mi pc = some .iastore) (hI : CI f A R) (hx : x.toInt = a) (h0 : 0 ≤ a) (h1 : a < 370) (hp : CT 1 a.toNat v.toInt) (kk : ∀ A' : Nat → List Int32, A' = upa A 53 ((A 53).set a.toNat v) → CI f A' R → pmE pg X pg_tyl pg_cl d mi (pc + 1) ls st (cd f A' R wr) Q) : pmE pg X pg_tyl pg_cl d mi pc ls (.int v :: .int x :: .ref 53 :: st) (cd f A R wr) Q :=
  pz_iast hd cd_a53 (cl_53 hI) hx h0 (by show a < ((370 : Nat) : Int); omega) cd_s53 (kk _ rfl (ci_st hI (by rw [cl_53 hI]; omega) (ct_one (kd := 1) (P := fun kd => CT kd a.toNat v.toInt) (by decide +kernel) hp)))
theorem cz_st65 {v : Int32} (hd : pm_dec pg mi pc = some .iastore) (hI : CI f A R) (hx : x.toInt = a) (h0 : 0 ≤ a) (h1 : a < 9) (kk : ∀ A' : Nat → List Int32, A' = upa A 65 ((A 65).set a.toNat v) → CI f A' R → pmE pg X pg_tyl pg_cl d mi (pc + 1) ls st (cd f A' R wr) Q) : pmE pg X pg_tyl pg_cl d mi pc ls (.int v :: .int x :: .ref 65 :: st) (cd f A R wr) Q :=
  pz_iast hd cd_a65 (cl_65 hI) hx h0 (by show a < ((9 : Nat) : Int); omega) cd_s65 (kk _ rfl (ci_st hI (by rw [cl_65 hI]; omega) (ct_no (by decide +kernel))))
theorem cz_st66 {v : Int32} (hd : pm_dec pg mi pc = some .iastore) (hI : CI f A R) (hx : x.toInt = a) (h0 : 0 ≤ a) (h1 : a < 6) (hp : CT 2 a.toNat v.toInt) (kk : ∀ A' : Nat → List Int32, A' = upa A 66 ((A 66).set a.toNat v) → CI f A' R → pmE pg X pg_tyl pg_cl d mi (pc + 1) ls st (cd f A' R wr) Q) : pmE pg X pg_tyl pg_cl d mi pc ls (.int v :: .int x :: .ref 66 :: st) (cd f A R wr) Q :=
  pz_iast hd cd_a66 (cl_66 hI) hx h0 (by show a < ((6 : Nat) : Int); omega) cd_s66 (kk _ rfl (ci_st hI (by rw [cl_66 hI]; omega) (ct_one (kd := 2) (P := fun kd => CT kd a.toNat v.toInt) (by decide +kernel) hp)))
theorem cz_st74 {v : Int32} (hd : pm_dec pg mi pc = some .iastore) (hI : CI f A R) (hx : x.toInt = a) (h0 : 0 ≤ a) (h1 : a < 81) (kk : ∀ A' : Nat → List Int32, A' = upa A 74 ((A 74).set a.toNat v) → CI f A' R → pmE pg X pg_tyl pg_cl d mi (pc + 1) ls st (cd f A' R wr) Q) : pmE pg X pg_tyl pg_cl d mi pc ls (.int v :: .int x :: .ref 74 :: st) (cd f A R wr) Q :=
  pz_iast hd cd_a74 (cl_74 hI) hx h0 (by show a < ((81 : Nat) : Int); omega) cd_s74 (kk _ rfl (ci_st hI (by rw [cl_74 hI]; omega) (ct_no (by decide +kernel))))
theorem cz_st75 {v : Int32} (hd : pm_dec pg mi pc = some .iastore) (hI : CI f A R) (hx : x.toInt = a) (h0 : 0 ≤ a) (h1 : a < 81) (kk : ∀ A' : Nat → List Int32, A' = upa A 75 ((A 75).set a.toNat v) → CI f A' R → pmE pg X pg_tyl pg_cl d mi (pc + 1) ls st (cd f A' R wr) Q) : pmE pg X pg_tyl pg_cl d mi pc ls (.int v :: .int x :: .ref 75 :: st) (cd f A R wr) Q :=
  pz_iast hd cd_a75 (cl_75 hI) hx h0 (by show a < ((81 : Nat) : Int); omega) cd_s75 (kk _ rfl (ci_st hI (by rw [cl_75 hI]; omega) (ct_no (by decide +kernel))))
theorem cz_st76 {v : Int32} (hd : pm_dec pg mi pc = some .iastore) (hI : CI f A R) (hx : x.toInt = a) (h0 : 0 ≤ a) (h1 : a < 9) (kk : ∀ A' : Nat → List Int32, A' = upa A 76 ((A 76).set a.toNat v) → CI f A' R → pmE pg X pg_tyl pg_cl d mi (pc + 1) ls st (cd f A' R wr) Q) : pmE pg X pg_tyl pg_cl d mi pc ls (.int v :: .int x :: .ref 76 :: st) (cd f A R wr) Q :=
  pz_iast hd cd_a76 (cl_76 hI) hx h0 (by show a < ((9 : Nat) : Int); omega) cd_s76 (kk _ rfl (ci_st hI (by rw [cl_76 hI]; omega) (ct_no (by decide +kernel))))
theorem cz_st77 {v : Int32} (hd : pm_dec pg mi pc = some .iastore) (hI : CI f A R) (hx : x.toInt = a) (h0 : 0 ≤ a) (h1 : a < 128) (kk : ∀ A' : Nat → List Int32, A' = upa A 77 ((A 77).set a.toNat v) → CI f A' R → pmE pg X pg_tyl pg_cl d mi (pc + 1) ls st (cd f A' R wr) Q) : pmE pg X pg_tyl pg_cl d mi pc ls (.int v :: .int x :: .ref 77 :: st) (cd f A R wr) Q :=
  pz_iast hd cd_a77 (cl_77 hI) hx h0 (by show a < ((128 : Nat) : Int); omega) cd_s77 (kk _ rfl (ci_st hI (by rw [cl_77 hI]; omega) (ct_no (by decide +kernel))))
theorem cz_st78 {v : Int32} (hd : pm_dec pg mi pc = some .bastore) (hI : CI f A R) (hx : x.toInt = a) (h0 : 0 ≤ a) (h1 : a < 128) (kk : ∀ A' : Nat → List Int32, A' = upa A 78 ((A 78).set a.toNat (vp_nar .boolean v)) → CI f A' R → pmE pg X pg_tyl pg_cl d mi (pc + 1) ls st (cd f A' R wr) Q) : pmE pg X pg_tyl pg_cl d mi pc ls (.int v :: .int x :: .ref 78 :: st) (cd f A R wr) Q :=
  pz_zast hd cd_a78 (cl_78 hI) hx h0 (by show a < ((128 : Nat) : Int); omega) cd_s78 (kk _ rfl (ci_st hI (by rw [cl_78 hI]; omega) (ct_one (kd := 6) (P := fun kd => CT kd a.toNat (vp_nar .boolean v).toInt) (by decide +kernel) (nb_rgz v))))
theorem cz_st80 {v : Int32} (hd : pm_dec pg mi pc = some .iastore) (hI : CI f A R) (hx : x.toInt = a) (h0 : 0 ≤ a) (h1 : a < 144) (kk : ∀ A' : Nat → List Int32, A' = upa A 80 ((A 80).set a.toNat v) → CI f A' R → pmE pg X pg_tyl pg_cl d mi (pc + 1) ls st (cd f A' R wr) Q) : pmE pg X pg_tyl pg_cl d mi pc ls (.int v :: .int x :: .ref 80 :: st) (cd f A R wr) Q :=
  pz_iast hd cd_a80 (cl_80 hI) hx h0 (by show a < ((144 : Nat) : Int); omega) cd_s80 (kk _ rfl (ci_st hI (by rw [cl_80 hI]; omega) (ct_no (by decide +kernel))))
theorem cz_st81 {v : Int32} (hd : pm_dec pg mi pc = some .iastore) (hI : CI f A R) (hx : x.toInt = a) (h0 : 0 ≤ a) (h1 : a < 12) (hp : CT 4 a.toNat v.toInt) (kk : ∀ A' : Nat → List Int32, A' = upa A 81 ((A 81).set a.toNat v) → CI f A' R → pmE pg X pg_tyl pg_cl d mi (pc + 1) ls st (cd f A' R wr) Q) : pmE pg X pg_tyl pg_cl d mi pc ls (.int v :: .int x :: .ref 81 :: st) (cd f A R wr) Q :=
  pz_iast hd cd_a81 (cl_81 hI) hx h0 (by show a < ((12 : Nat) : Int); omega) cd_s81 (kk _ rfl (ci_st hI (by rw [cl_81 hI]; omega) (ct_one (kd := 4) (P := fun kd => CT kd a.toNat v.toInt) (by decide +kernel) hp)))
theorem cz_st82 {v : Int32} (hd : pm_dec pg mi pc = some .iastore) (hI : CI f A R) (hx : x.toInt = a) (h0 : 0 ≤ a) (h1 : a < 12) (hp : CT 5 a.toNat v.toInt) (kk : ∀ A' : Nat → List Int32, A' = upa A 82 ((A 82).set a.toNat v) → CI f A' R → pmE pg X pg_tyl pg_cl d mi (pc + 1) ls st (cd f A' R wr) Q) : pmE pg X pg_tyl pg_cl d mi pc ls (.int v :: .int x :: .ref 82 :: st) (cd f A R wr) Q :=
  pz_iast hd cd_a82 (cl_82 hI) hx h0 (by show a < ((12 : Nat) : Int); omega) cd_s82 (kk _ rfl (ci_st hI (by rw [cl_82 hI]; omega) (ct_one (kd := 5) (P := fun kd => CT kd a.toNat v.toInt) (by decide +kernel) hp)))
theorem cz_st84 {v : Int32} (hd : pm_dec pg mi pc = some .iastore) (hI : CI f A R) (hx : x.toInt = a) (h0 : 0 ≤ a) (h1 : a < 9) (kk : ∀ A' : Nat → List Int32, A' = upa A 84 ((A 84).set a.toNat v) → CI f A' R → pmE pg X pg_tyl pg_cl d mi (pc + 1) ls st (cd f A' R wr) Q) : pmE pg X pg_tyl pg_cl d mi pc ls (.int v :: .int x :: .ref 84 :: st) (cd f A R wr) Q :=
  pz_iast hd cd_a84 (cl_84 hI) hx h0 (by show a < ((9 : Nat) : Int); omega) cd_s84 (kk _ rfl (ci_st hI (by rw [cl_84 hI]; omega) (ct_no (by decide +kernel))))
theorem cz_st86 {v : Int32} (hd : pm_dec pg mi pc = some .iastore) (hI : CI f A R) (hx : x.toInt = a) (h0 : 0 ≤ a) (h1 : a < 6) (kk : ∀ A' : Nat → List Int32, A' = upa A 86 ((A 86).set a.toNat v) → CI f A' R → pmE pg X pg_tyl pg_cl d mi (pc + 1) ls st (cd f A' R wr) Q) : pmE pg X pg_tyl pg_cl d mi pc ls (.int v :: .int x :: .ref 86 :: st) (cd f A R wr) Q :=
  pz_iast hd cd_a86 (cl_86 hI) hx h0 (by show a < ((6 : Nat) : Int); omega) cd_s86 (kk _ rfl (ci_st hI (by rw [cl_86 hI]; omega) (ct_no (by decide +kernel))))
end CZ1
/-! a village or a row of those that are told, by its place -/
def VV (v : Nat) : Prop := v = 5 ∨ v = 10
def RR (r : Nat) : Prop := r = 15 ∨ r = 17 ∨ r = 19
section CV
variable {f : Nat → Int32} {A : Nat → List Int32} {R : Nat → Value} {wr : pm_W} {v r : Nat}
theorem VV_b (h : VV v) : 5 ≤ v ∧ v ≤ 10 := by unfold VV at h; omega
theorem RR_b (h : RR r) : 15 ≤ r ∧ r ≤ 19 := by unfold RR at h; omega
theorem cv_o (h : VV v) : (cd f A R wr)[v]? = some (.inr (9, [.int (f (16 * v)), .int (f (16 * v + 1)), .int (f (16 * v + 2)), .ref (v + 1), .ref (v + 2), .ref (v + 3), .ref (v + 4)])) := by rcases h with rfl | rfl <;> rfl
theorem cv_a1 (h : VV v) : (cd f A R wr)[v + 1]? = some (.inl (0, .inl (A (v + 1)))) := by rcases h with rfl | rfl <;> rfl
theorem cv_a2 (h : VV v) : (cd f A R wr)[v + 2]? = some (.inl (0, .inl (A (v + 2)))) := by rcases h with rfl | rfl <;> rfl
theorem cv_a3 (h : VV v) : (cd f A R wr)[v + 3]? = some (.inl (0, .inl (A (v + 3)))) := by rcases h with rfl | rfl <;> rfl
theorem cv_a4 (h : VV v) : (cd f A R wr)[v + 4]? = some (.inl (0, .inl (A (v + 4)))) := by rcases h with rfl | rfl <;> rfl
theorem cv_l1 (h : VV v) (hI : CI f A R) : (A (v + 1)).length = 81 := by
  rcases h with rfl | rfl
  · exact cl_6 hI
  · exact cl_11 hI
theorem cv_l2 (h : VV v) (hI : CI f A R) : (A (v + 2)).length = 9 := by
  rcases h with rfl | rfl
  · exact cl_7 hI
  · exact cl_12 hI
theorem cv_l3 (h : VV v) (hI : CI f A R) : (A (v + 3)).length = 9 := by
  rcases h with rfl | rfl
  · exact cl_8 hI
  · exact cl_13 hI
theorem cv_l4 (h : VV v) (hI : CI f A R) : (A (v + 4)).length = 28 := by
  rcases h with rfl | rfl
  · exact cl_9 hI
  · exact cl_14 hI
theorem cv_people (h : VV v) (hI : CI f A R) : 0 ≤ (f (16 * v)).toInt ∧ (f (16 * v)).toInt ≤ 9 := by
  rcases h with rfl | rfl
  · exact cf_80 hI
  · exact cf_160 hI
theorem cv_wants (h : VV v) (hI : CI f A R) : 0 ≤ (f (16 * v + 2)).toInt ∧ (f (16 * v + 2)).toInt ≤ 7 := by
  rcases h with rfl | rfl
  · exact cf_82 hI
  · exact cf_162 hI
theorem cv_t4 (h : VV v) (hI : CI f A R) {x : Int32} {i : Nat} (e : x = (A (v + 4)).getD i 0) : CT 0 i x.toInt := by
  rcases h with rfl | rfl
  · exact ct_9 hI e
  · exact ct_14 hI e
theorem cr_o (h : RR r) : (cd f A R wr)[r]? = some (.inr (5, [.int (f (16 * r)), .ref (r + 1)])) := by rcases h with rfl | rfl | rfl <;> rfl
theorem cr_a1 (h : RR r) : (cd f A R wr)[r + 1]? = some (.inl (0, .inl (A (r + 1)))) := by rcases h with rfl | rfl | rfl <;> rfl
theorem cr_l1 (h : RR r) (hI : CI f A R) : (A (r + 1)).length = 270 := by
  rcases h with rfl | rfl | rfl
  · exact cl_16 hI
  · exact cl_18 hI
  · exact cl_20 hI
theorem cr_acts (h : RR r) (hI : CI f A R) : 0 ≤ (f (16 * r)).toInt ∧ (f (16 * r)).toInt ≤ 30 := by
  rcases h with rfl | rfl | rfl
  · exact cf_240 hI
  · exact cf_272 hI
  · exact cf_304 hI
end CV
