/-! ===== the class's reader: what a sentence leaves ===== -/
theorem ofN_i {m : Nat} (h : m ≤ 2147483647) : (Int32.ofNat m).toInt = m := by
  have e : (2 ^ 31 : Nat) = 2147483648 := by decide
  exact nI_toInt (by omega)
theorem four32 : (4 : Int32).toInt = 4 := by decide +kernel
theorem three32 : (3 : Int32).toInt = 3 := by decide +kernel
theorem aG_n {w : pm_W} {x : Int32} {m a : Nat} (h : x.toInt = m) : aG w a x = (gA w a).getD m 0 := by
  unfold aG
  rw [i_nat h]
section FZ
variable {X : pm_X} {k : Nat} {w0 w w' : pm_W} {r : Option Value} {p p1 p2 p3 : Int32} {a b v : Nat}
theorem F52 (hS : SK w) (h : PS X k 52 0 [.int p1, .int p2] [] w r w') : r = some (.int (p1 * 9 + p2)) ∧ w' = w := by
  cases k with
  | zero => exact (PS_0 h).elim
  | succ k => exact U52_0 hS h
/-- a village's cells, as the reference numbers them -/
def vcl (w : pm_W) (v k : Nat) : Int32 := if k = 0 then gI w v 0 else if k = 1 then gI w v 2 else if k = 2 then gI w v 1 else if k < 84 then (gA w (gR w v 3)).getD (k - 3) 0 else if k < 93 then (gA w (gR w v 4)).getD (k - 84) 0 else if k < 102 then (gA w (gR w v 5)).getD (k - 93) 0 else if k < 130 then (gA w (gR w v 6)).getD (k - 102) 0 else 0
def updc (c : Nat → Int32) (k : Nat) (x : Int32) : Nat → Int32 := fun j => if j = k then x else c j
theorem getD_set {xs : List Int32} {i j : Nat} {x : Int32} (h : i < xs.length) : (xs.set i x).getD j 0 = if j = i then x else xs.getD j 0 := by
  by_cases e : j = i
  · rw [if_pos e, e]
    exact gz_eq h
  · rw [if_neg e]
    exact gz_ne (fun z => e z.symm)
theorem cpy_getF {xs ys : List Int32} {sp dp n q : Nat} (h1 : sp + n ≤ xs.length) (h2 : dp + n ≤ ys.length) : (pm_cpy xs ys sp dp n).getD q 0 = if dp ≤ q ∧ q < dp + n then xs.getD (sp + (q - dp)) 0 else ys.getD q 0 := by
  unfold pm_cpy
  have l1 : (ys.take dp).length = dp := by rw [List.length_take]; omega
  have l2 : ((xs.drop sp).take n).length = n := by rw [List.length_take, List.length_drop]; omega
  rw [List.getD_eq_getElem?_getD, List.getD_eq_getElem?_getD, List.getD_eq_getElem?_getD]
  by_cases c1 : q < dp
  · rw [if_neg (by omega), List.getElem?_append_left (by rw [List.length_append, l1]; omega), List.getElem?_append_left (by omega), List.getElem?_take_of_lt c1]
  · by_cases c2 : q < dp + n
    · rw [if_pos ⟨by omega, c2⟩, List.getElem?_append_left (by rw [List.length_append, l1, l2]; omega), List.getElem?_append_right (by omega), l1, List.getElem?_take_of_lt (by omega), List.getElem?_drop]
    · rw [if_neg (by omega), List.getElem?_append_right (by rw [List.length_append, l1, l2]; omega), List.length_append, l1, l2, List.getElem?_drop, show dp + n + (q - (dp + n)) = q by omega]
theorem cpS_A {a0 a1 : Nat} {sp dp n : Int32} (h : cpI w a0 a1 sp dp n) (hA : isA w a1) : gA (cpS w a0 a1 sp dp n) a1 = pm_cpy (gA w a0) (gA w a1) sp.toInt.toNat dp.toInt.toNat n.toInt.toNat := gA_sA hA
theorem FM_cpS {fs : List (Nat × Nat)} {as : List Nat} {a0 a1 : Nat} {sp dp n : Int32} (hc : cpI w a0 a1 sp dp n) (hS : SK w) (h : a1 ∈ as) : FM fs as w (cpS w a0 a1 sp dp n) := FM_sA (cpS_len hc) hS h
/-- an array filled -/
theorem F20_5 {i1 : Int32} {N : Nat} {y : Int32} (hy : y.toInt = N) : ∀ (k : Nat) (w : pm_W) (j : Nat) (x : Int32), SK w → x.toInt = j → j ≤ N → PS X k 20 5 [.ref a, .int i1, .int x, .int y] [] w r w' → r = none ∧ FM [] [a] w w' ∧ (gA w' a).length = (gA w a).length ∧ (∀ q, q < j → (gA w' a).getD q 0 = (gA w a).getD q 0) ∧ (∀ q, j ≤ q → q < N → (gA w' a).getD q 0 = i1) := by
  intro k
  induction k with
  | zero => intro w j x hS hx hj h; exact (PS_0 h).elim
  | succ k ih =>
    intro w j x hS hx hj h
    have h := U20_5 hS h
    by_cases c : y ≤ x
    · rw [if_pos c] at h
      rw [Int32.le_iff_toInt_le, hy, hx] at c
      rw [h.2]
      exact ⟨h.1, FM_refl hS, rfl, fun _ _ => rfl, fun q h1 h2 => by omega⟩
    · rw [if_neg c] at h
      rw [Int32.le_iff_toInt_le, hy, hx] at c
      have hI := h.1
      have h := h.2 _ rfl
      have hh := zi_hi y
      obtain ⟨w1, e⟩ : ∃ w1, w1 = aS w a x i1 := ⟨_, rfl⟩
      rw [← e] at h
      have hS1 : SK w1 := by rw [e]; exact SK_aS hS
      have g1 : gA w1 a = (gA w a).set j i1 := by rw [e, gA_aS (aI_isA hI), i_nat hx]
      have lj : j < (gA w a).length := by
        unfold aI iN at hI
        omega
      obtain ⟨z1, z2, z3, z4, z5⟩ := ih w1 (j + 1) (x + 1) hS1 (by rw [zi_inc (n := N) (by omega) (by omega), hx]; rfl) (by omega) h
      refine ⟨z1, FM_trans (by rw [e]; exact FM_aS hS (by simp)) z2, by rw [z3, g1, List.length_set], fun q hq => ?_, fun q h1 h2 => ?_⟩
      · rw [z4 q (by omega), g1, gz_ne (by omega)]
      · by_cases e2 : q = j
        · rw [z4 q (by omega), g1, e2, gz_eq lj]
        · exact z5 q (by omega) h2
theorem gN_A (h : isA w a) : gN w a = (gA w a).length := by
  obtain ⟨t, ys, hw⟩ := h
  unfold gN gA
  rw [hw]
  rfl
theorem F20 (hS : SK w) (hA : isA w a) (hl : (gA w a).length ≤ 1000) (h : PS X k 20 0 [.ref a, .int p, pm_dead, pm_dead] [] w r w') : r = none ∧ FM [] [a] w w' ∧ (gA w' a).length = (gA w a).length ∧ (∀ q, q < (gA w a).length → (gA w' a).getD q 0 = p) := by
  cases k with
  | zero => exact (PS_0 h).elim
  | succ k =>
    have h := U20_0 hS h
    rw [gN_A hA] at h
    have e : (Int32.ofNat (gA w a).length).toInt = ((gA w a).length : Nat) := ofN_i (by omega)
    obtain ⟨z1, z2, z3, _, z5⟩ := F20_5 e _ _ 0 _ hS z32 (by omega) h
    exact ⟨z1, z2, z3, fun q hq => z5 q (by omega) hq⟩
/-- of Reader's village -/
theorem SK_R24 (hS : SK w) : gR w 24 3 = 25 ∧ gR w 24 4 = 26 ∧ gR w 24 5 = 27 ∧ gR w 24 6 = 28 := ⟨sk_fix hS (by decide +kernel) (by decide), sk_fix hS (by decide +kernel) (by decide), sk_fix hS (by decide +kernel) (by decide), sk_fix hS (by decide +kernel) (by decide)⟩
theorem vcl_24 (hS : SK w) (k : Nat) : vcl w 24 k = if k = 0 then gI w 24 0 else if k = 1 then gI w 24 2 else if k = 2 then gI w 24 1 else if k < 84 then (gA w 25).getD (k - 3) 0 else if k < 93 then (gA w 26).getD (k - 84) 0 else if k < 102 then (gA w 27).getD (k - 93) 0 else if k < 130 then (gA w 28).getD (k - 102) 0 else 0 := by
  obtain ⟨h1, h2, h3, h4⟩ := SK_R24 hS
  unfold vcl
  rw [h1, h2, h3, h4]
/-- what a verb of a village does to its cells -/
def kS (v : Nat) (c ns : Nat → Int32) : Nat → Int32 := match v with
  | 6 => updc c 0 (ns 0)
  | 7 => updc c (3 + (9 * (ns 0).toInt.toNat + (ns 1).toInt.toNat)) (ns 2)
  | 8 => fun k => if 3 ≤ k ∧ k < 84 then (if (k - 3) % 10 = 0 then 0 else ns 0) else c k
  | 9 => updc c (84 + (ns 0).toInt.toNat) (ns 1)
  | 10 => updc c (93 + (ns 0).toInt.toNat) (ns 1)
  | 11 => updc c 2 (ns 0)
  | _ => fun k => if k = 1 then c 1 + 1 else if 102 + 4 * (c 1).toInt.toNat ≤ k ∧ k < 106 + 4 * (c 1).toInt.toNat then ns (k - (102 + 4 * (c 1).toInt.toNat)) else c k
/-- the greatest person named -/
def gS (v : Nat) (g : Int) (ns : Nat → Int32) : Int := match v with
  | 7 => max g (max (ns 0).toInt (ns 1).toInt)
  | 12 => max g (max (ns 0).toInt (ns 1).toInt)
  | 9 => max g (ns 0).toInt
  | 10 => max g (ns 0).toInt
  | _ => g
theorem mx32 {x y : Int32} : (if x < y then y else x).toInt = max x.toInt y.toInt := by
  by_cases c : x < y
  · rw [if_pos c]
    rw [Int32.lt_iff_toInt_lt] at c
    omega
  · rw [if_neg c]
    rw [Int32.lt_iff_toInt_lt] at c
    omega
/-- all words -/
theorem F53_2 {x : Int32} : ∀ (k : Nat) (w : pm_W), SK w → (gA w 25).length = 81 → (∀ (a : Nat) (i : Int32) (u : Value), i.toInt = a → a ≤ 9 → PS X k 53 2 [.ref 24, .int x, .int i, u] [] w r w' → r = none ∧ FM [] [25] w w' ∧ (gA w' 25).length = 81 ∧ ∀ q, q < 81 → (gA w' 25).getD q 0 = if q < 9 * a then (gA w 25).getD q 0 else if q % 10 = 0 then 0 else x) ∧ (∀ (a b : Nat) (i j : Int32), i.toInt = a → a ≤ 8 → j.toInt = b → b ≤ 9 → PS X k 53 10 [.ref 24, .int x, .int i, .int j] [] w r w' → r = none ∧ FM [] [25] w w' ∧ (gA w' 25).length = 81 ∧ ∀ q, q < 81 → (gA w' 25).getD q 0 = if q < 9 * a + b then (gA w 25).getD q 0 else if q % 10 = 0 then 0 else x) := by
  intro k
  have e9 : (9 : Int32).toInt = 9 := by decide +kernel
  induction k with
  | zero => intro w hS hl; exact ⟨fun a i u h1 h2 h => (PS_0 h).elim, fun a b i j h1 h2 h3 h4 h => (PS_0 h).elim⟩
  | succ k ih =>
    intro w hS hl
    refine ⟨fun a i u h1 h2 h => ?_, fun a b i j h1 h2 h3 h4 h => ?_⟩
    · have h := U53_2 hS h
      by_cases c : 9 ≤ i
      · rw [if_pos c] at h
        rw [Int32.le_iff_toInt_le, e9, h1] at c
        rw [h.2]
        exact ⟨h.1, FM_refl hS, hl, fun q hq => by rw [if_pos (by omega)]⟩
      · rw [if_neg c] at h
        rw [Int32.le_iff_toInt_le, e9, h1] at c
        exact (ih w hS hl).2 a 0 i 0 h1 (by omega) z32 (by omega) h
    · have h := U53_10 hS h
      by_cases c : 9 ≤ j
      · rw [if_pos c] at h
        rw [Int32.le_iff_toInt_le, e9, h3] at c
        have e : b = 9 := by omega
        obtain ⟨z1, z2, z3, z4⟩ := (ih w hS hl).1 (a + 1) (i + 1) _ (by rw [zi_inc (n := 9) (by omega) (by omega), h1]; rfl) (by omega) h
        refine ⟨z1, z2, z3, fun q hq => ?_⟩
        rw [z4 q hq, e, show 9 * (a + 1) = 9 * a + 9 by omega]
      · rw [if_neg c] at h
        rw [Int32.le_iff_toInt_le, e9, h3] at c
        have h := use_p hS h (fun _ _ q => F52 hS q)
        have ec : (i * 9 + j).toInt = (9 * a + b : Nat) := by
          rw [zi_add (zi_mul h1 e9 (by omega) (by omega)) h3 (by omega) (by omega)]
          omega
        have e25 := (SK_R24 hS).1
        rw [e25] at h
        have go : ∀ (y : Int32), y = (if (9 * a + b) % 10 = 0 then 0 else x) → aI w 25 (i * 9 + j) → PS X k 53 10 [.ref 24, .int x, .int i, .int (j + 1)] [] (aS w 25 (i * 9 + j) y) r w' → r = none ∧ FM [] [25] w w' ∧ (gA w' 25).length = 81 ∧ ∀ q, q < 81 → (gA w' 25).getD q 0 = if q < 9 * a + b then (gA w 25).getD q 0 else if q % 10 = 0 then 0 else x := by
          intro y hy hI z
          have g1 : gA (aS w 25 (i * 9 + j) y) 25 = (gA w 25).set (9 * a + b) y := by rw [gA_aS (aI_isA hI), i_nat ec]
          obtain ⟨z1, z2, z3, z4⟩ := (ih _ (SK_aS hS) (by rw [g1, List.length_set]; exact hl)).2 a (b + 1) i (j + 1) h1 h2 (by rw [zi_inc (n := 9) (by omega) (by omega), h3]; rfl) (by omega) z
          refine ⟨z1, FM_trans (FM_aS hS (by decide)) z2, z3, fun q hq => ?_⟩
          rw [z4 q hq, g1, getD_set (by omega)]
          by_cases c1 : q = 9 * a + b
          · rw [if_pos (by omega), if_pos c1, if_neg (by omega), c1]
            exact hy
          · by_cases c2 : q < 9 * a + b
            · rw [if_pos (by omega), if_neg c1, if_pos c2]
            · rw [if_neg (by omega), if_neg c2]
        by_cases c2 : i = j
        · rw [if_pos c2] at h
          have eab : a = b := by
            have := congrArg Int32.toInt c2
            omega
          exact go 0 (by rw [if_pos (by omega)]) h.1 (h.2 _ rfl)
        · rw [if_neg c2] at h
          have eab : a ≠ b := by
            intro z
            exact c2 (Int32.toInt_inj.mp (by omega))
          exact go x (by rw [if_neg (by omega)]) h.1 (h.2 _ rfl)
/-- a further want -/
theorem F54 (hS : SK w) (hl : (gA w 28).length = 28) (c0 : 0 ≤ (gI w 24 2).toInt) (c7 : (gI w 24 2).toInt < 7) (h : PS X k 54 0 [.ref 24, .ref 31] [] w r w') : r = none ∧ FM [(24, 2)] [28] w w' ∧ gI w' 24 2 = gI w 24 2 + 1 ∧ (gA w' 28).length = 28 ∧ ∀ q, q < 28 → (gA w' 28).getD q 0 = if 4 * (gI w 24 2).toInt.toNat ≤ q ∧ q < 4 * (gI w 24 2).toInt.toNat + 4 then cns w (q - 4 * (gI w 24 2).toInt.toNat) else (gA w 28).getD q 0 := by
  cases k with
  | zero => exact (PS_0 h).elim
  | succ k =>
    have h := U54_0 hS h
    have e7 : (7 : Int32).toInt = 7 := by decide +kernel
    rw [if_neg (by rw [Int32.le_iff_toInt_le, e7]; omega), (SK_R24 hS).2.2.2] at h
    have hI := h.1
    have h := h.2 _ rfl _ rfl
    have hA : isA w 28 := SK_isA hS (by decide +kernel)
    have ga := cpS_A hI hA
    have e4 : (gI w 24 2 * 4).toInt = (gI w 24 2).toInt * 4 := zi_mul rfl four32 (by omega) (by omega)
    have l0 : 4 ≤ (gA w 31).length := by
      obtain ⟨_, _, _, q, _⟩ := hI
      rw [z32, four32] at q
      omega
    rw [z32, e4, four32] at ga
    have ga2 : gA w' 28 = gA (cpS w 31 28 0 (gI w 24 2 * 4) 4) 28 := by rw [h.2, gA_sI]
    have hS1 : SK (cpS w 31 28 0 (gI w 24 2 * 4) 4) := SK_cpS hI hS
    refine ⟨h.1, ?_, ?_, ?_, fun q hq => ?_⟩
    · rw [h.2]
      exact FM_trans (FM_cpS hI hS (by decide)) (FM_sI hS1 (by decide))
    · rw [h.2, gI_sI (SK_isF hS1 (by decide +kernel))]
      congr 1
      exact gI_sA
    · rw [ga2, ga]
      unfold pm_cpy
      rw [List.length_append, List.length_append, List.length_take, List.length_take, List.length_drop, List.length_drop]
      omega
    · rw [ga2, ga, cpy_getF (by omega) (by omega)]
      by_cases c : 4 * (gI w 24 2).toInt.toNat ≤ q ∧ q < 4 * (gI w 24 2).toInt.toNat + 4
      · rw [if_pos c, if_pos (by omega)]
        unfold cns
        congr 1
        omega
      · rw [if_neg c, if_neg (by omega)]
/-- a further act -/
theorem F50_32 {v m b0 : Nat} {i1 i3 i4 : Int32} (hm : i3.toInt = m) (hb : i4.toInt = b0) (hb2 : b0 + 9 ≤ 270) : ∀ (k : Nat) (w : pm_W) (j : Nat) (x : Int32), SK w → (gA w 30).length = 270 → (gI w 29 0).toInt ≤ 29 → x.toInt = j → j ≤ 8 → PS X k 50 32 [.ref 29, .int i1, .ref 31, .int i3, .int i4, .int x] [] w r w' → r = none ∧ FM [(29, 0)] [30] w w' ∧ gI w' 29 0 = gI w 29 0 + 1 ∧ (gA w' 30).length = 270 ∧ ∀ q, (gA w' 30).getD q 0 = if b0 + 1 + j ≤ q ∧ q < b0 + 9 then (if q < b0 + 1 + m then cns w (q - (b0 + 1)) else -1) else (gA w 30).getD q 0 := by
  intro k
  induction k with
  | zero => intro w j x hS hl h29 hx hj h; exact (PS_0 h).elim
  | succ k ih =>
    intro w j x hS hl h29 hx hj h
    have h := U50_32 hS h
    have e30 : gR w 29 1 = 30 := sk_fix hS (by decide +kernel) (by decide)
    rw [e30] at h
    by_cases c : 8 ≤ x
    · rw [if_pos c] at h
      rw [Int32.le_iff_toInt_le, eight32, hx] at c
      have h := h _ rfl
      rw [h.2]
      refine ⟨h.1, FM_sI hS (by decide), gI_sI (SK_isF hS (by decide +kernel)), by rw [gA_sI]; exact hl, fun q => ?_⟩
      rw [gA_sI, if_neg (by omega)]
    · rw [if_neg c] at h
      rw [Int32.le_iff_toInt_le, eight32, hx] at c
      have ei : (i4 + 1 + x).toInt = (b0 + 1 + j : Nat) := by
        rw [zi_add (zi_add hb o32 (by omega) (by omega)) hx (by omega) (by omega)]
        omega
      have go : ∀ (y : Int32), y = (if j < m then cns w j else -1) → aI w 30 (i4 + 1 + x) → PS X k 50 32 [.ref 29, .int i1, .ref 31, .int i3, .int i4, .int (x + 1)] [] (aS w 30 (i4 + 1 + x) y) r w' → r = none ∧ FM [(29, 0)] [30] w w' ∧ gI w' 29 0 = gI w 29 0 + 1 ∧ (gA w' 30).length = 270 ∧ ∀ q, (gA w' 30).getD q 0 = if b0 + 1 + j ≤ q ∧ q < b0 + 9 then (if q < b0 + 1 + m then cns w (q - (b0 + 1)) else -1) else (gA w 30).getD q 0 := by
        intro y hy hI z
        have g1 : gA (aS w 30 (i4 + 1 + x) y) 30 = (gA w 30).set (b0 + 1 + j) y := by rw [gA_aS (aI_isA hI), i_nat ei]
        have gc : ∀ t, cns (aS w 30 (i4 + 1 + x) y) t = cns w t := by
          intro t
          unfold cns
          rw [gA_aS_ne (by decide)]
        obtain ⟨z1, z2, z3, z4, z5⟩ := ih _ (j + 1) (x + 1) (SK_aS hS) (by rw [g1, List.length_set]; exact hl) (by rw [gI_aS]; exact h29) (by rw [zi_inc (n := 8) (by omega) (by omega), hx]; rfl) (by omega) z
        refine ⟨z1, FM_trans (FM_aS hS (by decide)) z2, by rw [z3, gI_aS], z4, fun q => ?_⟩
        rw [z5 q, g1, getD_set (by omega)]
        by_cases c1 : q = b0 + 1 + j
        · rw [if_neg (by omega), if_pos c1, if_pos (by omega), hy, c1]
          by_cases c2 : j < m
          · rw [if_pos c2, if_pos (by omega), show b0 + 1 + j - (b0 + 1) = j by omega]
          · rw [if_neg c2, if_neg (by omega)]
        · by_cases c2 : b0 + 1 + j ≤ q ∧ q < b0 + 9
          · rw [if_pos (by omega), if_pos c2, gc]
          · rw [if_neg (by omega), if_neg c1, if_neg c2]
      by_cases c3 : i3 ≤ x
      · rw [if_pos c3] at h
        rw [Int32.le_iff_toInt_le, hm, hx] at c3
        exact go (-1) (by rw [if_neg (by omega)]) h.1 (h.2 _ rfl)
      · rw [if_neg c3] at h
        rw [Int32.le_iff_toInt_le, hm, hx] at c3
        have h := h.2
        refine go _ ?_ h.1 (h.2 _ rfl)
        rw [if_pos (by omega), aG_n (m := j) hx]
        rfl
theorem F50 {v m : Nat} (hS : SK w) (hl : (gA w 30).length = 270) (hm : p3.toInt = m) (h0 : 0 ≤ (gI w 29 0).toInt) (h29 : (gI w 29 0).toInt ≤ 29) (h : PS X k 50 0 [.ref 29, .int p1, .ref 31, .int p3, pm_dead, pm_dead] [] w r w') : r = none ∧ FM [(29, 0)] [30] w w' ∧ gI w' 29 0 = gI w 29 0 + 1 ∧ (gA w' 30).length = 270 ∧ ∀ q, (gA w' 30).getD q 0 = if q = 9 * (gI w 29 0).toInt.toNat then p1 else if 9 * (gI w 29 0).toInt.toNat + 1 ≤ q ∧ q < 9 * (gI w 29 0).toInt.toNat + 9 then (if q < 9 * (gI w 29 0).toInt.toNat + 1 + m then cns w (q - (9 * (gI w 29 0).toInt.toNat + 1)) else -1) else (gA w 30).getD q 0 := by
  cases k with
  | zero => exact (PS_0 h).elim
  | succ k =>
    have h := U50_0 hS h
    have e30 : gR w 29 1 = 30 := sk_fix hS (by decide +kernel) (by decide)
    have t30 : (30 : Int32).toInt = 30 := by decide +kernel
    have e9 : (9 : Int32).toInt = 9 := by decide +kernel
    rw [if_pos (by rw [Int32.lt_iff_toInt_lt, t30]; omega), e30] at h
    have eb : (gI w 29 0 * 9).toInt = (9 * (gI w 29 0).toInt.toNat : Nat) := by
      rw [zi_mul rfl e9 (by omega) (by omega)]
      omega
    have eb0 : (gI w 29 0 * 9 + 0).toInt = (9 * (gI w 29 0).toInt.toNat : Nat) := by
      rw [zi_add eb z32 (by omega) (by omega)]
      omega
    have hI := h.1
    have h := h.2 _ rfl
    have g1 : gA (aS w 30 (gI w 29 0 * 9 + 0) p1) 30 = (gA w 30).set (9 * (gI w 29 0).toInt.toNat) p1 := by rw [gA_aS (aI_isA hI), i_nat eb0]
    have gc : ∀ t, cns (aS w 30 (gI w 29 0 * 9 + 0) p1) t = cns w t := by
      intro t
      unfold cns
      rw [gA_aS_ne (by decide)]
    obtain ⟨z1, z2, z3, z4, z5⟩ := F50_32 (v := v) hm eb (by omega) _ _ 0 _ (SK_aS hS) (by rw [g1, List.length_set]; exact hl) (by rw [gI_aS]; exact h29) z32 (by omega) h
    refine ⟨z1, FM_trans (FM_aS hS (by decide)) z2, by rw [z3, gI_aS], z4, fun q => ?_⟩
    rw [z5 q, g1, getD_set (by omega)]
    by_cases c1 : q = 9 * (gI w 29 0).toInt.toNat
    · rw [if_neg (by omega), if_pos c1, if_pos c1]
    · rw [if_neg c1, if_neg c1]
      by_cases c2 : 9 * (gI w 29 0).toInt.toNat + 1 ≤ q ∧ q < 9 * (gI w 29 0).toInt.toNat + 9
      · rw [if_pos (by omega), if_pos c2, gc]
      · rw [if_neg (by omega), if_neg c2]
end FZ
