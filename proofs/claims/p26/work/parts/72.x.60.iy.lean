/-! ===== lacks, markNear, gainBy: the class ===== -/
section IYA
variable {X : pm_X} {k k2 : Nat} {w0 w w1 w2 w3 w4 w5 w6 wj w' : pm_W} {r r2 q0 q1 q2 : Option Value} {p1 p2 p3 p4 p5 i0 i1 i2 i3 i4 i5 i6 i7 i8 z z1 z2 y : Int32} {i v j m u P t s a b Q I J K T p W M N κ : Nat} {R R' C ask c c' : Nat → Nat → Int} {e g d sl x : Int} {A B : Nat → Nat} {n o : Nat → Int} {S : Nat → Bool} {wv : Nat → Int32} {s1 t1 t2 : SN} {can : Nat → Prop}
theorem lack_b (hR : ∀ i j, i < P → j < P → 0 ≤ R i j) (ha : ∀ i j, i < P → j < P → ask i j ≤ 1000) (hP : P ≤ 9) : lackS R ask P ≤ 81000 := by
  have e : ∀ (x : Int) m, suI (fun _ => x) m = x * m := by
    intro x m
    induction m with
    | zero => exact (Int.mul_zero x).symm
    | succ m ih =>
      show suI _ m + x = _
      rw [ih, show ((m + 1 : Nat) : Int) = (m : Int) + 1 from rfl, Int.mul_add, Int.mul_one]
  have q : ∀ i, i < P → suI (fun j => psI (ask i j - R i j)) P ≤ 9000 := by
    intro i hi
    have q := suI_le (f := fun j => psI (ask i j - R i j)) (g := fun _ => 1000) P (fun j hj => by
      have b := ha i j hi hj
      have c := hR i j hi hj
      unfold psI
      omega)
    rw [e] at q
    omega
  have q2 := suI_le (f := fun i => suI (fun j => psI (ask i j - R i j)) P) (g := fun _ => 9000) P q
  rw [e] at q2
  unfold lackS
  omega
theorem due_b (hn : ∀ κ, κ < W → 1 ≤ n κ ∧ n κ ≤ 99) (hW : W ≤ 7) : suI (fun p => psI (surS A B n s W p)) 10 ≤ 10000 := by
  have q := suI_le (f := fun p => psI (surS A B n s W p)) (g := fun _ => 1000) 10 (fun p _ => by
    have := sur_b (A := A) (B := B) (s := s) (p := p) hn W (Nat.le_refl _)
    unfold psI
    omega)
  have : suI (fun _ => (1000 : Int)) 10 = 10000 := by decide
  omega
theorem F182 (hS : SK w) (hV : WSH w P W A B n) (hR : ∀ i j, i < P → j < P → 0 ≤ rmW w i j ∧ rmW w i j ≤ 1000) (hm1 : MSK p1 7 (fun b => s.testBit b)) (h : PS X k 182 0 [.ref 68, .int p1] [] w r w') : FM [] [75, 76, 80, 81, 82] w w' ∧ ∃ z : Int32, r = some (.int z) ∧ LKS (rmW w) P W A B n s z.toInt := by
  cases k with
  | zero => exact (PS_0 h).elim
  | succ k =>
    obtain ⟨q1, w2, y, h⟩ := U182_0 hS h
    obtain ⟨f1, a1, a2, z, a3, a4⟩ := F170 hS hV hR hm1 y
    have S2 := f1.2.2.2
    have h := h _ a3 S2
    have er : rmW w2 = rmW w := by funext i j; unfold rmW; rw [FM_a f1 (by decide)]
    obtain ⟨v, b1, b2, b3, b4, b5, b6, b7, b8, b9⟩ := WSH_fm hV f1 (by intro p hp; cases hp) (by decide)
    have hn : ∀ κ, κ < W → 1 ≤ n κ ∧ n κ ≤ 99 := fun κ hκ => ⟨(b9 κ hκ).2.2.1, (b9 κ hκ).2.2.2⟩
    have hAB : ∀ κ, κ < W → A κ < P ∧ B κ < P := fun κ hκ => ⟨(b9 κ hκ).1, (b9 κ hκ).2.1⟩
    obtain ⟨q4, w5, y5, h⟩ := h
    have ab : ∀ i j, 0 ≤ askS A B n s W i j ∧ askS A B n s W i j ≤ 1000 := fun i j => by
      have := ask_b (A := A) (B := B) (s := s) (i := i) (j := j) hn W (Nat.le_refl _)
      omega
    obtain ⟨f5, z5, x, c1, c2, c3⟩ := F171 (o := surS A B n s W) S2 b1 (by omega) b2 b3 z32 ⟨Int.le_refl _, by omega⟩ (fun i j hi hj => by
      rw [er, a1 i j (by omega) (by omega)]
      exact ⟨hR i j hi hj, ab i j⟩) (fun p hp => sur_hi hAB hp W (Nat.le_refl _)) (fun p hp => a2 p (by omega)) (fun p => by
      have := sur_b (A := A) (B := B) (s := s) (p := p) hn W (Nat.le_refl _)
      omega) y5
    have ecap : capS (rmW w2) (aqW w2) P 0 = capS (rmW w) (askS A B n s W) P 0 := capS_cg (fun i j hi hj => ⟨by rw [er], a1 i j (by omega) (by omega)⟩)
    rw [ecap] at c3
    have h := h _ c1 f5.2.2.2
    have f15 := FM_trans (FM_mono f1 (by intro x hx; cases hx) (by decide)) (FM_mono f5 (by intro x hx; cases hx) (by decide) : FM [] [75, 76, 80, 81, 82] w2 w5)
    rw [h.2]
    refine ⟨f15, z + z5, h.1, x, c3, ?_⟩
    have l0 := lack_nn (R := rmW w) (ask := askS A B n s W) (P := P)
    have l1 := lack_b (R := rmW w) (ask := askS A B n s W) (fun i j hi hj => (hR i j hi hj).1) (fun i j _ _ => (ab i j).2) b3
    have d1 := due_b (A := A) (B := B) (s := s) hn b5
    have x0 : 0 ≤ x := by
      obtain ⟨_, S, hx⟩ := c3
      rw [hx]
      exact CUT_nn (fun i j _ _ => (capS_b (fun i j hi hj => ⟨(hR i j hi hj).2, (ab i j).1⟩) ⟨Int.le_refl _, by omega⟩ i j).1)
    have x1 := c3.1 (fun _ => false)
    rw [CUT_0] at x1
    rw [zi_add a4 c2 (by omega) (by omega)]
theorem LKw_g {fs : List (Nat × Nat)} {as : List Nat} (h : LKw w P W A B n wv) (f : FM fs as w w') (h1 : ∀ p, p ∈ fs → p.1 = 68 ∧ p.2 ≠ 0 ∧ p.2 ≠ 7) (h2 : ∀ a, a ∈ as → 64 ≤ a ∧ a ≠ 74 ∧ a ≠ 77) : LKw w' P W A B n wv := by
  obtain ⟨g1, g2, g3, g4, g5⟩ := h
  refine ⟨WSH_fm g1 f (fun p hp => ⟨(h1 p hp).1, (h1 p hp).2.1⟩) (fun a ha => (h2 a ha).1), fun i j hi hj => ?_, by rw [FM_i f (fun hm => (h1 _ hm).2.2 rfl)]; exact g3, fun s hs => ?_, g5⟩
  · rw [show rmW w' = rmW w from by funext i j; unfold rmW; rw [FM_a f (fun hm => (h2 _ hm).2.1 rfl)]]
    exact g2 i j hi hj
  · rw [← g4 s hs]
    unfold vaW
    rw [FM_a f (fun hm => (h2 _ hm).2.2 rfl)]
theorem rmW_g {fs : List (Nat × Nat)} {as : List Nat} (f : FM fs as w w') (h : 74 ∉ as) : rmW w' = rmW w := by funext i j; unfold rmW; rw [FM_a f h]
theorem aB_t {L : Nat} {y x : Int32} (hx : x = 0 ∨ x = 1) (hS : SK w) (ha : gT sk0 v = 2) (hA : sk_a v = true) (hl : sk_l v = L) (h0 : L ≠ 0) (h : y.toInt = κ) (hκ : κ < L) (j : Nat) : (gA (aB w v y x) v).getD j 0 = if j = κ then x else (gA w v).getD j 0 := by
  unfold aB
  rw [show gT w v = 2 from by rw [SK_T hS]; exact ha]
  show (gA (aS w v y (vp_nar .boolean x)) v).getD j 0 = _
  rw [show vp_nar .boolean x = x from by rcases hx with rfl | rfl <;> decide +kernel, gA_aS (SK_isA hS hA), i_nat h, getD_set (by rw [SK_len hS hl h0]; exact hκ)]
end IYA
