/-! ===== what is told, on both sides; text keeps it, and answers alike ===== -/
section GP
variable {X : pm_X} {k k2 : Nat} {w0 w w1 w2 w' : pm_W} {r r2 : Option Value} {p p1 p2 p3 f0 p0 f q : Int32} {bs cs : Nat → Int32} {n i v j m a s T : Nat} {b : Bool} {c : Nat → Int32} {g : Int}
def BY (x y : Int32) : Prop := -128 ≤ x.toInt ∧ x.toInt ≤ 127 ∧ y.toInt = if x.toInt < 0 then x.toInt + 256 else x.toInt
theorem BY_BE {x y : Int32} (h : BY x y) : y = x ∨ (isBl x = false ∧ isLt x = false ∧ isDg x = false ∧ x ≠ 59 ∧ isBl y = false ∧ isLt y = false ∧ isDg y = false ∧ y ≠ 59) := by
  obtain ⟨h1, h2, h3⟩ := h
  have e10 : (10 : Int32).toInt = 10 := ten32
  have e32 : (32 : Int32).toInt = 32 := by decide +kernel
  have e59 : (59 : Int32).toInt = 59 := by decide +kernel
  have out : ∀ z : Int32, (z.toInt < 0 ∨ 128 ≤ z.toInt) → isBl z = false ∧ isLt z = false ∧ isDg z = false ∧ z ≠ 59 := by
    intro z hz
    unfold isBl isLt isDg
    rw [decide_eq_false (fun e : z = 10 => by rw [e, e10] at hz; omega), decide_eq_false (fun e : z = 32 => by rw [e, e32] at hz; omega)]
    refine ⟨rfl, ?_, ?_, fun e => by rw [e, e59] at hz; omega⟩
    · rcases hz with hz | hz
      · rw [decide_eq_false (by omega)]; rfl
      · rw [decide_eq_false (by omega : ¬ z.toInt ≤ 122), Bool.and_false]
    · rcases hz with hz | hz
      · rw [decide_eq_false (by omega)]; rfl
      · rw [decide_eq_false (by omega : ¬ z.toInt ≤ 57), Bool.and_false]
  by_cases c : x.toInt < 0
  · rw [if_pos c] at h3
    obtain ⟨a1, a2, a3, a4⟩ := out x (Or.inl c)
    obtain ⟨b1, b2, b3, b4⟩ := out y (Or.inr (by omega))
    exact Or.inr ⟨a1, a2, a3, a4, b1, b2, b3, b4⟩
  · rw [if_neg c] at h3
    exact Or.inl (Int32.toInt_inj.mp h3)
/-- the ranges of what is told -/
def RA (a : Nat → Int32) : Prop := 0 ≤ (a 0).toInt ∧ (a 0).toInt ≤ 2 ∧ 0 ≤ (a 1).toInt ∧ (a 1).toInt ≤ 3 ∧ 0 ≤ (a 2).toInt ∧ (a 2).toInt ≤ 600 ∧ ∀ u, u < (a 1).toInt.toNat → 0 ≤ (a (874 + 272 * u)).toInt ∧ (a (874 + 272 * u)).toInt ≤ 30
/-- the class's told object at T has the cells a -/
def TE (w : pm_W) (T : Nat) (a : Nat → Int32) : Prop := RA a ∧ gI w T 2 = a 0 ∧ gI w T 3 = a 1 ∧ gI w T 5 = a 2 ∧ gI w T 6 = a 3 ∧ gI w T 7 = a 4 ∧ (∀ j, j < (a 2).toInt.toNat → BY ((gA w (T + 3)).getD j 0) (a (10 + j))) ∧ (∀ u, u < (a 0).toInt.toNat → ∀ k, k < 130 → vcl w (T + 4 + 5 * u) k = a (610 + 132 * u + k)) ∧ (∀ u, u < (a 1).toInt.toNat → gI w (T + 14 + 2 * u) 0 = a (874 + 272 * u) ∧ ∀ q, q < 9 * (a (874 + 272 * u)).toInt.toNat → (gA w (T + 15 + 2 * u)).getD q 0 = a (874 + 272 * u + 1 + q))
theorem TE_BE (h : TE w 1 (al w)) (hn : n = (al w 2).toInt.toNat) : BEq (tb w) (rb w) n := by
  intro j hj
  exact BY_BE (h.2.2.2.2.2.2.1 j (by omega))
theorem vcl_FMv {fs : List (Nat × Nat)} {as : List Nat} (hS : SK w) (fm : FM fs as w w1) (ok : okV v = true) (h0 : (v, 0) ∉ fs) (h1 : (v, 1) ∉ fs) (h2 : (v, 2) ∉ fs) (a1 : v + 1 ∉ as) (a2 : v + 2 ∉ as) (a3 : v + 3 ∉ as) (a4 : v + 4 ∉ as) (k : Nat) : vcl w1 v k = vcl w v k := by
  rw [vcl_ok hS ok, vcl_ok fm.2.2.2 ok, FM_i fm h0, FM_i fm h1, FM_i fm h2, FM_a fm a1, FM_a fm a2, FM_a fm a3, FM_a fm a4]
def fl198 : List (Nat × Nat) := [(147, 2), (147, 3), (147, 4), (147, 5), (147, 6), (147, 7), (147, 8), (147, 9)]
/-- text, where nothing is kept but tape and fault -/
theorem TE_n {as : List Nat} (hS : SK w) (hTE : TE w 1 (al w)) (fm : FM (fl16 ++ fl198) as w w2) (ha : ∀ x, x ∈ [6, 7, 8, 9, 11, 12, 13, 14, 16, 18, 20] → x ∉ as) (g5 : gI w2 1 5 = 0) (g6 : gI w2 1 6 = f) (g7 : gI w2 1 7 = p) (hal : ∀ q, al w2 q = if q = 3 then f else if q = 4 then p else if q = 2 then 0 else al w q) : TE w2 1 (al w2) := by
  obtain ⟨⟨r1, r2, r3, r4, r5, r6, r7⟩, t1, t2, t3, t4, t5, t6, t7, t8⟩ := hTE
  have lo : ∀ q, q ≠ 2 → q ≠ 3 → q ≠ 4 → al w2 q = al w q := fun q h2 h3 h4 => by rw [hal, if_neg h3, if_neg h4, if_neg h2]
  have e2 : al w2 2 = 0 := by rw [hal]; rfl
  have e3 : al w2 3 = f := by rw [hal]; rfl
  have e4 : al w2 4 = p := by rw [hal]; rfl
  refine ⟨⟨?_, ?_, ?_, ?_, ?_, ?_, ?_⟩, ?_, ?_, ?_, ?_, ?_, ?_, ?_, ?_⟩
  · rw [lo 0 (by decide) (by decide) (by decide)]; exact r1
  · rw [lo 0 (by decide) (by decide) (by decide)]; exact r2
  · rw [lo 1 (by decide) (by decide) (by decide)]; exact r3
  · rw [lo 1 (by decide) (by decide) (by decide)]; exact r4
  · rw [e2]; decide
  · rw [e2]; decide
  · intro u hu
    rw [lo 1 (by decide) (by decide) (by decide)] at hu
    rw [lo _ (by omega) (by omega) (by omega)]
    exact r7 u hu
  · rw [FM_i fm (by decide), lo 0 (by decide) (by decide) (by decide)]; exact t1
  · rw [FM_i fm (by decide), lo 1 (by decide) (by decide) (by decide)]; exact t2
  · rw [e2]; exact g5
  · rw [e3]; exact g6
  · rw [e4]; exact g7
  · intro j hj
    rw [e2] at hj
    exact absurd hj (by show ¬ j < 0; omega)
  · intro u hu k hk
    rw [lo 0 (by decide) (by decide) (by decide)] at hu
    rw [lo _ (by omega) (by omega) (by omega), ← t7 u hu k hk]
    have c : u = 0 ∨ u = 1 := by omega
    rcases c with rfl | rfl
    · exact vcl_FMv hS fm (by decide +kernel) (by decide) (by decide) (by decide) (ha _ (by decide)) (ha _ (by decide)) (ha _ (by decide)) (ha _ (by decide)) k
    · exact vcl_FMv hS fm (by decide +kernel) (by decide) (by decide) (by decide) (ha _ (by decide)) (ha _ (by decide)) (ha _ (by decide)) (ha _ (by decide)) k
  · intro u hu
    rw [lo 1 (by decide) (by decide) (by decide)] at hu
    rw [lo _ (by omega) (by omega) (by omega)]
    obtain ⟨y1, y2⟩ := t8 u hu
    have c : u = 0 ∨ u = 1 ∨ u = 2 := by omega
    refine ⟨?_, fun q hq => ?_⟩
    · rw [← y1]
      rcases c with rfl | rfl | rfl <;> exact FM_i fm (by decide)
    · rw [lo _ (by omega) (by omega) (by omega), ← y2 q hq]
      rcases c with rfl | rfl | rfl <;> rw [FM_a fm (ha _ (by decide))]
theorem Int32_cnt {x y : Int32} {κ : Nat} (hy : y.toInt = κ) (h0 : 0 ≤ x.toInt) (h : (p2 = -1 ∧ y = x) ∨ (p2 ≠ -1 ∧ y = p2 ∧ y.toInt < x.toInt)) : (if x.toInt < κ + 1 then y + 1 else x) = if p2 = -1 then x + 1 else x := by
  rcases h with ⟨h1, h2⟩ | ⟨h1, h2, h3⟩
  · rw [if_pos h1, if_pos (by rw [← h2, hy]; omega), h2]
  · rw [if_neg h1, if_neg (by omega)]
theorem plc_c {s0 : Nat} {cnt vc rc : Int32} (hs : (p1 = 0 ∧ cnt = vc ∧ s0 = 0) ∨ (p1 = 1 ∧ cnt = rc ∧ s0 = 1)) (hp : plcF p1 p2 vc rc ≠ -1) : (p2 = -1 ∧ plcF p1 p2 vc rc = cnt) ∨ (p2 ≠ -1 ∧ plcF p1 p2 vc rc = p2 ∧ (plcF p1 p2 vc rc).toInt < cnt.toInt) := by
  rw [plc_eq hs] at hp ⊢
  by_cases e : p2 = -1
  · rw [if_pos e] at hp ⊢
    by_cases c : cnt.toInt < (s0 + 2 : Nat)
    · rw [if_pos c]; exact Or.inl ⟨e, rfl⟩
    · rw [if_neg c] at hp; exact absurd rfl hp
  · rw [if_neg e] at hp ⊢
    by_cases c : 0 ≤ p2.toInt ∧ p2.toInt < cnt.toInt
    · rw [if_pos c]; exact Or.inr ⟨e, rfl, c.2⟩
    · rw [if_neg c] at hp; exact absurd rfl hp
/-- a village is kept -/
theorem TE_v {κ : Nat} {C : Nat → Int32} {cnt : Int32} (hS : SK w) (hTE : TE w 1 (al w)) (hκ : κ ≤ 1) (fm : FM ([(1, 2), (5 + 5 * κ, 0), (5 + 5 * κ, 1), (5 + 5 * κ, 2)] ++ fl16 ++ fl198) ([6 + 5 * κ, 7 + 5 * κ, 8 + 5 * κ, 9 + 5 * κ] ++ alR ++ [148, 150, 151]) w w2) (hC : ∀ k, vcl w2 (5 + 5 * κ) k = C k) (g2 : gI w2 1 2 = cnt) (hc2 : cnt.toInt = max (al w 0).toInt (κ + 1)) (hk : κ ≤ (al w 0).toInt.toNat) (g5 : gI w2 1 5 = 0) (g6 : gI w2 1 6 = 0) (g7 : gI w2 1 7 = -1) (hal : ∀ q, al w2 q = tlN true κ C (al w) cnt 0 q) : TE w2 1 (al w2) := by
  obtain ⟨⟨r1, r2, r3, r4, r5, r6, r7⟩, t1, t2, t3, t4, t5, t6, t7, t8⟩ := hTE
  have hal : ∀ q, al w2 q = if q = 2 then 0 else if q = 3 then 0 else if q = 4 then -1 else if q = 0 then cnt else if 610 + 132 * κ ≤ q ∧ q < 610 + 132 * κ + 132 then C (q - (610 + 132 * κ)) else al w q := hal
  have lo : ∀ q, q ≠ 2 → q ≠ 3 → q ≠ 4 → q ≠ 0 → ¬ (610 + 132 * κ ≤ q ∧ q < 610 + 132 * κ + 132) → al w2 q = al w q := fun q h2 h3 h4 h0 hx => by rw [hal, if_neg h2, if_neg h3, if_neg h4, if_neg h0, if_neg hx]
  have e0 : al w2 0 = cnt := by rw [hal]; rfl
  have e1 : al w2 1 = al w 1 := lo 1 (by decide) (by decide) (by decide) (by decide) (by omega)
  have e2 : al w2 2 = 0 := by rw [hal]; rfl
  have e3 : al w2 3 = 0 := by rw [hal]; rfl
  have e4 : al w2 4 = -1 := by rw [hal]; rfl
  have kc : κ = 0 ∨ κ = 1 := by omega
  refine ⟨⟨?_, ?_, ?_, ?_, ?_, ?_, ?_⟩, ?_, ?_, ?_, ?_, ?_, ?_, ?_, ?_⟩
  · rw [e0]; omega
  · rw [e0]; omega
  · rw [e1]; exact r3
  · rw [e1]; exact r4
  · rw [e2]; decide
  · rw [e2]; decide
  · intro u hu
    rw [e1] at hu
    rw [lo _ (by omega) (by omega) (by omega) (by omega) (by omega)]
    exact r7 u hu
  · rw [e0]; exact g2
  · rw [e1, ← t2]; rcases kc with rfl | rfl <;> exact FM_i fm (by decide)
  · rw [e2]; exact g5
  · rw [e3]; exact g6
  · rw [e4]; exact g7
  · intro j hj
    rw [e2] at hj
    exact absurd hj (by show ¬ j < 0; omega)
  · intro u hu k hk'
    rw [e0] at hu
    by_cases e : u = κ
    · rw [e, show 1 + 4 + 5 * κ = 5 + 5 * κ by omega, hC, hal, if_neg (by omega), if_neg (by omega), if_neg (by omega), if_neg (by omega), if_pos (by omega), show 610 + 132 * κ + k - (610 + 132 * κ) = k by omega]
    · rw [lo _ (by omega) (by omega) (by omega) (by omega) (by omega), ← t7 u (by omega) k hk']
      have c : (u = 0 ∧ κ = 1) ∨ (u = 1 ∧ κ = 0) := by omega
      rcases c with ⟨rfl, rfl⟩ | ⟨rfl, rfl⟩
      · exact vcl_FMv hS fm (by decide +kernel) (by decide) (by decide) (by decide) (by decide) (by decide) (by decide) (by decide) k
      · exact vcl_FMv hS fm (by decide +kernel) (by decide) (by decide) (by decide) (by decide) (by decide) (by decide) (by decide) k
  · intro u hu
    rw [e1] at hu
    rw [lo _ (by omega) (by omega) (by omega) (by omega) (by omega)]
    obtain ⟨y1, y2⟩ := t8 u hu
    have c : u = 0 ∨ u = 1 ∨ u = 2 := by omega
    refine ⟨?_, fun q hq => ?_⟩
    · rw [← y1]
      rcases c with rfl | rfl | rfl <;> rcases kc with rfl | rfl <;> exact FM_i fm (by decide)
    · rw [lo _ (by omega) (by omega) (by omega) (by omega) (by omega), ← y2 q hq]
      rcases c with rfl | rfl | rfl <;> rcases kc with rfl | rfl <;> rw [FM_a fm (by decide)]
/-- a row is kept -/
theorem TE_r {κ : Nat} {C : Nat → Int32} {cnt : Int32} (hS : SK w) (hTE : TE w 1 (al w)) (hκ : κ ≤ 2) (fm : FM ([(1, 3), (15 + 2 * κ, 0)] ++ fl16 ++ fl198) ([16 + 2 * κ] ++ alR ++ [148, 150, 151]) w w2) (hC0 : gI w2 (15 + 2 * κ) 0 = C 0) (hC1 : 0 ≤ (C 0).toInt) (hC2 : (C 0).toInt ≤ 30) (hC : ∀ q, q < 9 * (C 0).toInt.toNat → (gA w2 (16 + 2 * κ)).getD q 0 = C (1 + q)) (g2 : gI w2 1 3 = cnt) (hc2 : cnt.toInt = max (al w 1).toInt (κ + 1)) (hk : κ ≤ (al w 1).toInt.toNat) (g5 : gI w2 1 5 = 0) (g6 : gI w2 1 6 = 0) (g7 : gI w2 1 7 = -1) (hal : ∀ q, al w2 q = tlN false κ C (al w) cnt 1 q) : TE w2 1 (al w2) := by
  obtain ⟨⟨r1, r2, r3, r4, r5, r6, r7⟩, t1, t2, t3, t4, t5, t6, t7, t8⟩ := hTE
  have hal : ∀ q, al w2 q = if q = 2 then 0 else if q = 3 then 0 else if q = 4 then -1 else if q = 1 then cnt else if 874 + 272 * κ ≤ q ∧ q < 874 + 272 * κ + 272 then C (q - (874 + 272 * κ)) else al w q := hal
  have lo : ∀ q, q ≠ 2 → q ≠ 3 → q ≠ 4 → q ≠ 1 → ¬ (874 + 272 * κ ≤ q ∧ q < 874 + 272 * κ + 272) → al w2 q = al w q := fun q h2 h3 h4 h0 hx => by rw [hal, if_neg h2, if_neg h3, if_neg h4, if_neg h0, if_neg hx]
  have e0 : al w2 0 = al w 0 := lo 0 (by decide) (by decide) (by decide) (by decide) (by omega)
  have e1 : al w2 1 = cnt := by rw [hal]; rfl
  have e2 : al w2 2 = 0 := by rw [hal]; rfl
  have e3 : al w2 3 = 0 := by rw [hal]; rfl
  have e4 : al w2 4 = -1 := by rw [hal]; rfl
  have kc : κ = 0 ∨ κ = 1 ∨ κ = 2 := by omega
  have eK : ∀ x, x < 272 → al w2 (874 + 272 * κ + x) = C x := fun x hx => by
    rw [hal, if_neg (by omega), if_neg (by omega), if_neg (by omega), if_neg (by omega), if_pos (by omega), show 874 + 272 * κ + x - (874 + 272 * κ) = x by omega]
  have eK0 : al w2 (874 + 272 * κ) = C 0 := eK 0 (by decide)
  refine ⟨⟨?_, ?_, ?_, ?_, ?_, ?_, ?_⟩, ?_, ?_, ?_, ?_, ?_, ?_, ?_, ?_⟩
  · rw [e0]; exact r1
  · rw [e0]; exact r2
  · rw [e1]; omega
  · rw [e1]; omega
  · rw [e2]; decide
  · rw [e2]; decide
  · intro u hu
    rw [e1] at hu
    by_cases e : u = κ
    · rw [e, eK0]; exact ⟨hC1, hC2⟩
    · rw [lo _ (by omega) (by omega) (by omega) (by omega) (by omega)]
      exact r7 u (by omega)
  · rw [e0, ← t1]; rcases kc with rfl | rfl | rfl <;> exact FM_i fm (by decide)
  · rw [e1]; exact g2
  · rw [e2]; exact g5
  · rw [e3]; exact g6
  · rw [e4]; exact g7
  · intro j hj
    rw [e2] at hj
    exact absurd hj (by show ¬ j < 0; omega)
  · intro u hu k hk'
    rw [e0] at hu
    rw [lo _ (by omega) (by omega) (by omega) (by omega) (by omega), ← t7 u hu k hk']
    have c : u = 0 ∨ u = 1 := by omega
    rcases c with rfl | rfl
    · rcases kc with rfl | rfl | rfl <;> exact vcl_FMv hS fm (by decide +kernel) (by decide) (by decide) (by decide) (by decide) (by decide) (by decide) (by decide) k
    · rcases kc with rfl | rfl | rfl <;> exact vcl_FMv hS fm (by decide +kernel) (by decide) (by decide) (by decide) (by decide) (by decide) (by decide) (by decide) k
  · intro u hu
    rw [e1] at hu
    by_cases e : u = κ
    · rw [e, eK0, show 1 + 14 + 2 * κ = 15 + 2 * κ by omega, show 1 + 15 + 2 * κ = 16 + 2 * κ by omega]
      refine ⟨hC0, fun q hq => ?_⟩
      rw [hC q hq, show 874 + 272 * κ + 1 + q = 874 + 272 * κ + (1 + q) by omega, eK _ (by omega)]
    · rw [lo _ (by omega) (by omega) (by omega) (by omega) (by omega)]
      obtain ⟨y1, y2⟩ := t8 u (by omega)
      have ra := r7 u (by omega)
      have c : (u = 0 ∧ κ = 1) ∨ (u = 0 ∧ κ = 2) ∨ (u = 1 ∧ κ = 0) ∨ (u = 1 ∧ κ = 2) ∨ (u = 2 ∧ κ = 0) ∨ (u = 2 ∧ κ = 1) := by omega
      refine ⟨?_, fun q hq => ?_⟩
      · rw [← y1]
        rcases c with ⟨rfl, rfl⟩ | ⟨rfl, rfl⟩ | ⟨rfl, rfl⟩ | ⟨rfl, rfl⟩ | ⟨rfl, rfl⟩ | ⟨rfl, rfl⟩ <;> exact FM_i fm (by decide)
      · rw [lo _ (by omega) (by omega) (by omega) (by omega) (by omega), ← y2 q hq]
        rcases c with ⟨rfl, rfl⟩ | ⟨rfl, rfl⟩ | ⟨rfl, rfl⟩ | ⟨rfl, rfl⟩ | ⟨rfl, rfl⟩ | ⟨rfl, rfl⟩ <;> rw [FM_a fm (by decide)]
end GP
