/-! ===== sets of wants: what they ask, whether they can be had (the class) ===== -/
section IPC
variable {X : pm_X} {k k2 : Nat} {w0 w w1 w2 w3 w4 w5 wj w' : pm_W} {r r2 q0 q1 q2 : Option Value} {p1 p2 p3 p4 p5 i1 i2 i3 i4 i5 i6 i7 i8 z z1 z2 x y : Int32} {i v j m u P t s b Q I J K a T p W M N κ : Nat} {R R' C ask : Nat → Nat → Int} {e g d sl : Int} {A B : Nat → Nat} {n o : Nat → Int} {S : Nat → Bool}
def askS (A B : Nat → Nat) (n : Nat → Int) (s W i j : Nat) : Int := suI (fun κ => if s.testBit κ = true ∧ A κ = i ∧ B κ = j then n κ else 0) W
def surS (A B : Nat → Nat) (n : Nat → Int) (s W p : Nat) : Int := suI (fun κ => if s.testBit κ = true then (if B κ = p then n κ else 0) - (if A κ = p then n κ else 0) else 0) W
def lackS (R ask : Nat → Nat → Int) (P : Nat) : Int := suI (fun i => suI (fun j => psI (ask i j - R i j)) P) P
/-- what is left between P people and one more with whom each has sl -/
def capS (R ask : Nat → Nat → Int) (P : Nat) (sl : Int) (i j : Nat) : Int := if i < P ∧ j < P then psI (R i j - ask i j) else if (i < P ∧ j = 9) ∨ (i = 9 ∧ j < P) then sl else 0
theorem ask_b (hn : ∀ κ, κ < W → 1 ≤ n κ ∧ n κ ≤ 99) : ∀ t, t ≤ W → 0 ≤ askS A B n s t i j ∧ askS A B n s t i j ≤ 99 * t := by
  intro t
  induction t with
  | zero => intro _; exact ⟨Int.le_refl _, Int.le_refl _⟩
  | succ t ih =>
    intro ht
    have q := ih (by omega)
    have q2 := hn t (by omega)
    unfold askS at q ⊢
    show 0 ≤ suI _ t + (if s.testBit t = true ∧ A t = i ∧ B t = j then n t else 0) ∧ suI _ t + (if s.testBit t = true ∧ A t = i ∧ B t = j then n t else 0) ≤ 99 * ((t + 1 : Nat) : Int)
    split <;> omega
theorem sur_b (hn : ∀ κ, κ < W → 1 ≤ n κ ∧ n κ ≤ 99) : ∀ t, t ≤ W → -(99 * (t : Int)) ≤ surS A B n s t p ∧ surS A B n s t p ≤ 99 * t := by
  intro t
  induction t with
  | zero => intro _; exact ⟨Int.le_refl _, Int.le_refl _⟩
  | succ t ih =>
    intro ht
    have q := ih (by omega)
    have q2 := hn t (by omega)
    unfold surS at q ⊢
    show -(99 * ((t + 1 : Nat) : Int)) ≤ suI _ t + (if s.testBit t = true then (if B t = p then n t else 0) - (if A t = p then n t else 0) else 0) ∧ suI _ t + (if s.testBit t = true then (if B t = p then n t else 0) - (if A t = p then n t else 0) else 0) ≤ 99 * ((t + 1 : Nat) : Int)
    by_cases c : s.testBit t = true
    · rw [if_pos c]
      split <;> split <;> omega
    · rw [if_neg c]; omega
theorem ask_s : askS A B n s (t + 1) i j = askS A B n s t i j + (if s.testBit t = true ∧ A t = i ∧ B t = j then n t else 0) := rfl
theorem sur_s : surS A B n s (t + 1) p = surS A B n s t p + (if s.testBit t = true then (if B t = p then n t else 0) - (if A t = p then n t else 0) else 0) := rfl
theorem lack_s {a b : Nat} {ask' : Nat → Nat → Int} (ha : a < P) (hb : b < P) (h : ∀ i j, ask' i j = if i = a ∧ j = b then d else ask i j) : lackS R ask' P = lackS R ask P + (psI (d - R a b) - psI (ask a b - R a b)) := by
  unfold lackS
  have e : ∀ i, i < P → suI (fun j => psI (ask' i j - R i j)) P = suI (fun j => psI (ask i j - R i j)) P + (if i = a then psI (d - R a b) - psI (ask a b - R a b) else 0) := by
    intro i hi
    by_cases c : i = a
    · rw [if_pos c, c]
      rw [suI_cg (g := fun j => psI (ask a j - R a j) + (if j = b then psI (d - R a b) - psI (ask a b - R a b) else 0)) P (fun j hj => ?_), suI_add P, suI_one P hb]
      show psI (ask' a j - R a j) = _
      rw [h a j]
      by_cases c2 : j = b
      · rw [if_pos ⟨rfl, c2⟩, if_pos c2, c2]; omega
      · rw [if_neg (fun z => c2 z.2), if_neg c2]; omega
    · rw [if_neg c]
      rw [suI_cg (g := fun j => psI (ask i j - R i j)) P (fun j hj => ?_)]
      · omega
      · rw [h i j, if_neg (fun z => c z.1)]
  rw [suI_cg P e, suI_add P, suI_one P ha]
theorem lack_0 (h : ∀ i j, i < P → j < P → ask i j - R i j ≤ 0) : lackS R ask P = 0 := by
  unfold lackS
  refine suI_z P (fun i hi => suI_z P (fun j hj => ?_))
  have := h i j hi hj
  unfold psI
  omega
theorem psI_0 {e : Int} : 0 ≤ psI e := by unfold psI; omega
theorem suI_0 : ∀ m, (∀ i, i < m → 0 ≤ n i) → suI n m = 0 → ∀ i, i < m → n i = 0
  | 0, _, _, i, hi => absurd hi (Nat.not_lt_zero i)
  | m + 1, h, hs, i, hi => by
    have q1 := suI_nn (f := n) (n := m) (fun i hi => h i (by omega))
    have q2 := h m (by omega)
    have hs : suI n m + n m = 0 := hs
    by_cases e : i = m
    · rw [e]; omega
    · exact suI_0 m (fun i hi => h i (by omega)) (by omega) i (by omega)
theorem lack_i (h : lackS R ask P = 0) (hi : i < P) (hj : j < P) : ask i j ≤ R i j := by
  unfold lackS at h
  have q := suI_0 P (fun i _ => suI_nn (fun j _ => psI_0)) h i hi
  have q2 := suI_0 P (fun j _ => psI_0) q j hj
  unfold psI at q2
  omega
theorem lack_nn : 0 ≤ lackS R ask P := by
  unfold lackS
  exact suI_nn (fun i _ => suI_nn (fun j _ => psI_0))
/-! the class -/
def aqW (w : pm_W) (i j : Nat) : Int := ((gA w 75).getD (9 * i + j) 0).toInt
def spW (w : pm_W) (p : Nat) : Int := ((gA w 76).getD p 0).toInt
theorem l75 (hS : SK w) : (gA w 75).length = 81 := SK_len hS (a := 75) (n := 81) (by decide +kernel) (by decide)
theorem l76 (hS : SK w) : (gA w 76).length = 9 := SK_len hS (a := 76) (n := 9) (by decide +kernel) (by decide)
theorem aqW_s {a b : Nat} (hS : SK w) (ha : a < 9) (hb : b < 9) (hx : x.toInt = (9 * a + b : Nat)) (i j : Nat) (hi : i < 9) (hj : j < 9) : aqW (aS w 75 x y) i j = if i = a ∧ j = b then y.toInt else aqW w i j := by
  unfold aqW
  rw [gA_aS (SK_isA hS (by decide +kernel)), i_nat hx, getD_set (by rw [l75 hS]; omega)]
  by_cases e : i = a ∧ j = b
  · rw [if_pos (by omega), if_pos e]
  · rw [if_neg (by omega), if_neg e]
theorem spW_s (hS : SK w) (hx : x.toInt = a) (ha : a < 9) (q : Nat) : spW (aS w 76 x y) q = if q = a then y.toInt else spW w q := by
  unfold spW
  rw [gA_aS (SK_isA hS (by decide +kernel)), i_nat hx, getD_set (by rw [l76 hS]; exact ha)]
  by_cases e : q = a
  · rw [if_pos e, if_pos e]
  · rw [if_neg e, if_neg e]
theorem aq_76 : aqW (aS w 76 x y) = aqW w := by funext i j; unfold aqW; rw [gA_aS_ne (by decide)]
theorem sp_75 : spW (aS w 75 x y) = spW w := by funext i; unfold spW; rw [gA_aS_ne (by decide)]
/-- the village that wishes look at: W wants, each with its A, B, n -/
def WSH (w : pm_W) (P W : Nat) (A B : Nat → Nat) (n : Nat → Int) : Prop := ∃ v : Nat, gR w 68 0 = v ∧ (gI w v 0).toInt = P ∧ P ≤ 9 ∧ (gI w v 2).toInt = W ∧ W ≤ 7 ∧ gR w v 6 = v + 4 ∧ v + 4 < 60 ∧ (∀ κ, κ < W → ((gA w (v + 4)).getD (4 * κ) 0).toInt = A κ ∧ ((gA w (v + 4)).getD (4 * κ + 1) 0).toInt = B κ ∧ ((gA w (v + 4)).getD (4 * κ + 2) 0).toInt = n κ) ∧ ∀ κ, κ < W → A κ < P ∧ B κ < P ∧ 1 ≤ n κ ∧ n κ ≤ 99
theorem WSH_fm {fs : List (Nat × Nat)} {as : List Nat} (h : WSH w P W A B n) (f : FM fs as w w') (h1 : ∀ p, p ∈ fs → p.1 = 68 ∧ p.2 ≠ 0) (h2 : ∀ a, a ∈ as → 64 ≤ a) : WSH w' P W A B n := by
  obtain ⟨v, a1, a2, a3, a4, a5, a6, a7, a8, a9⟩ := h
  have nf : ∀ q, q ≠ 68 → ∀ c, (q, c) ∉ fs := fun q hq c hm => hq (h1 _ hm).1
  have n0 : (68, 0) ∉ fs := fun hm => (h1 _ hm).2 rfl
  have na : v + 4 ∉ as := fun hm => by have := h2 _ hm; omega
  refine ⟨v, by rw [FM_r f n0]; exact a1, by rw [FM_i f (nf v (by omega) 0)]; exact a2, a3, by rw [FM_i f (nf v (by omega) 2)]; exact a4, a5, by rw [FM_r f (nf v (by omega) 6)]; exact a6, a7, fun κ hκ => ?_, a9⟩
  rw [FM_a f na]
  exact a8 κ hκ
theorem F170_20 (hV : WSH w0 P W A B n) (hR : ∀ i j, i < P → j < P → 0 ≤ rmW w0 i j ∧ rmW w0 i j ≤ 1000) (hm1 : MSK i1 7 (fun b => s.testBit b)) : ∀ (k t : Nat) (w : pm_W) (i2 i3 : Int32) (u4 u5 u6 u7 : Value), FM [] [75, 76] w0 w → i3.toInt = t → t ≤ W → (∀ i j, i < 9 → j < 9 → aqW w i j = askS A B n s t i j) → (∀ p, p < 9 → spW w p = surS A B n s t p) → i2.toInt = lackS (rmW w0) (askS A B n s t) P → PS X k 170 20 [.ref 68, .int i1, .int i2, .int i3, u4, u5, u6, u7] [] w r w' → FM [] [75, 76] w0 w' ∧ (∀ i j, i < 9 → j < 9 → aqW w' i j = askS A B n s W i j) ∧ (∀ p, p < 9 → spW w' p = surS A B n s W p) ∧ ∃ z : Int32, r = some (.int z) ∧ z.toInt = lackS (rmW w0) (askS A B n s W) P := by
  obtain ⟨v, a1, a2, a3, a4, a5, a6, a7, a8, a9⟩ := id hV
  have hn : ∀ κ, κ < W → 1 ≤ n κ ∧ n κ ≤ 99 := fun κ hκ => ⟨(a9 κ hκ).2.2.1, (a9 κ hκ).2.2.2⟩
  have lb : ∀ t, t ≤ W → lackS (rmW w0) (askS A B n s t) P ≤ 81 * 700 := by
    intro t ht
    have q : ∀ i, i < P → suI (fun j => psI (askS A B n s t i j - rmW w0 i j)) P ≤ 9 * 700 := by
      intro i hi
      have q := suI_le (f := fun j => psI (askS A B n s t i j - rmW w0 i j)) (g := fun _ => 700) P (fun j hj => by
        have b := ask_b (A := A) (B := B) (s := s) (i := i) (j := j) hn t ht
        have c := hR i j hi hj
        unfold psI
        omega)
      have e : ∀ m, suI (fun _ => (700 : Int)) m = 700 * m := by
        intro m
        induction m with
        | zero => rfl
        | succ m ih => show suI _ m + 700 = _; rw [ih]; omega
      rw [e] at q
      omega
    have q2 := suI_le (f := fun i => suI (fun j => psI (askS A B n s t i j - rmW w0 i j)) P) (g := fun _ => 9 * 700) P q
    have e : ∀ m, suI (fun _ => (9 * 700 : Int)) m = 9 * 700 * m := by
      intro m
      induction m with
      | zero => rfl
      | succ m ih => show suI _ m + 9 * 700 = _; rw [ih]; omega
    rw [e] at q2
    unfold lackS
    omega
  intro k
  induction k with
  | zero => intro t w i2 i3 u4 u5 u6 u7 _ _ _ _ _ _ h; exact (PS_0 h).elim
  | succ k ih =>
    intro t w i2 i3 u4 u5 u6 u7 fm h3 ht ha hs h2 h
    have hS : SK w := fm.2.2.2
    have h := U170_20 hS h
    rw [FM_r fm (by simp), a1, FM_i fm (by simp)] at h
    by_cases c : gI w0 v 2 ≤ i3
    · rw [if_pos c] at h
      rw [Int32.le_iff_toInt_le, a4, h3] at c
      have e : t = W := by omega
      rw [e] at ha hs h2
      rw [h.2]
      exact ⟨fm, ha, hs, i2, h.1, h2⟩
    · rw [if_neg c] at h
      rw [Int32.le_iff_toInt_le, a4, h3] at c
      have htW : t < W := by omega
      have e1 : (i3 + 1).toInt = ((t + 1 : Nat) : Int) := by rw [zi_inc (n := 40) (by omega) (by omega), h3]; rfl
      have h := use_p hS h (fun _ _ y => F89m hS hm1 h3 (by omega) (by decide) y)
      cases hb : s.testBit t with
      | false =>
        rw [hb, if_pos (by decide +kernel)] at h
        have ea : ∀ i j, askS A B n s (t + 1) i j = askS A B n s t i j := fun i j => by rw [ask_s, hb, if_neg (fun z => Bool.noConfusion z.1)]; omega
        refine ih (t + 1) w i2 _ _ _ _ _ fm e1 (by omega) (fun i j hi hj => by rw [ea]; exact ha i j hi hj) (fun p hp => by rw [sur_s, hb, if_neg Bool.false_ne_true, hs p hp]; omega) ?_ h
        rw [h2]
        congr 1
        funext i j
        exact (ea i j).symm
      | true =>
        rw [hb, if_neg (by decide +kernel)] at h
        have hv6 : gR w v 6 = v + 4 := by rw [FM_r fm (by simp)]; exact a6
        have hg : gR w 68 0 = v := by rw [FM_r fm (by simp)]; exact a1
        obtain ⟨b1, b2, b3⟩ := a8 t htW
        obtain ⟨c1, c2, c3, c4⟩ := a9 t htW
        have ev4 : gA w (v + 4) = gA w0 (v + 4) := FM_a fm (by simp; omega)
        have F : ∀ (c : Nat) (p : Int32) (r1 : Option Value) (w2 : pm_W), p.toInt = c → c < 4 → PS X k 65 0 [.ref v, .int i3, .int p] [] w r1 w2 → r1 = some (.int ((gA w0 (v + 4)).getD (4 * t + c) 0)) ∧ w2 = w := by
          intro c p r1 w2 hc hc4 y
          obtain ⟨d1, d2⟩ := F65 hS hv6 y
          refine ⟨?_, d2⟩
          rw [d1, aG_n (m := 4 * t + c) (by rw [zi_add (zi_mul h3 four32 (by omega) (by omega)) hc (by omega) (by omega)]; omega), ev4]
        rw [hg] at h
        have h := use_p hS h (fun _ _ y => F 2 2 _ _ two32 (by decide) y)
        rw [hg] at h
        have h := use_p hS h (fun _ _ y => F 0 0 _ _ z32 (by decide) y)
        rw [hg] at h
        have h := use_p hS h (fun _ _ y => F 1 1 _ _ o32 (by decide) y)
        have b1 : ((gA w0 (v + 4)).getD (4 * t + 0) 0).toInt = A t := b1
        obtain ⟨xa, hxa⟩ : ∃ xa, xa = (gA w0 (v + 4)).getD (4 * t + 0) 0 := ⟨_, rfl⟩
        obtain ⟨xb, hxb⟩ : ∃ xb, xb = (gA w0 (v + 4)).getD (4 * t + 1) 0 := ⟨_, rfl⟩
        obtain ⟨xn, hxn⟩ : ∃ xn, xn = (gA w0 (v + 4)).getD (4 * t + 2) 0 := ⟨_, rfl⟩
        rw [← hxa, ← hxb, ← hxn] at h
        rw [← hxa] at b1
        rw [← hxb] at b2
        rw [← hxn] at b3
        have A9 : A t < 9 := by omega
        have B9 : B t < 9 := by omega
        obtain ⟨k1, hk1, h⟩ := use_z hS h (fun _ _ q => F52n hS b1 b2 A9 B9 q)
        obtain ⟨_, h⟩ := h
        obtain ⟨k2, hk2, h⟩ := use_z hS h (fun _ _ q => F52n hS b1 b2 A9 B9 q)
        obtain ⟨_, h⟩ := h
        obtain ⟨k3, hk3, h⟩ := use_z hS h (fun _ _ q => F52n hS b1 b2 A9 B9 q)
        obtain ⟨_, _, h⟩ := h
        have h := h _ rfl
        have S1 : SK (aS w 75 k3 (aG w 75 k3 + xn)) := SK_aS hS
        obtain ⟨k4, hk4, h⟩ := use_z S1 h (fun _ _ q => F52n S1 b1 b2 A9 B9 q)
        obtain ⟨_, h⟩ := h
        obtain ⟨k5, hk5, h⟩ := use_z S1 h (fun _ _ q => F52n S1 b1 b2 A9 B9 q)
        obtain ⟨_, _, _, h⟩ := h
        have h := h _ rfl
        obtain ⟨_, _, h⟩ := h
        have h := h _ rfl
        -- the numbers
        have va : ∀ q : Int32, q.toInt = (9 * A t + B t : Nat) → (aG w 75 q).toInt = askS A B n s t (A t) (B t) := fun q hq => by
          rw [aG_n hq]
          exact ha (A t) (B t) A9 B9
        have vr : ∀ (w1 : pm_W) (q : Int32), gA w1 74 = gA w 74 → q.toInt = (9 * A t + B t : Nat) → (aG w1 74 q).toInt = rmW w0 (A t) (B t) := fun w1 q hw hq => by
          rw [aG_n hq, hw, FM_a fm (by decide)]
          rfl
        obtain ⟨q1, q2⟩ := ask_b (A := A) (B := B) (s := s) (i := A t) (j := B t) hn t (by omega)
        obtain ⟨q3, q4⟩ := hR (A t) (B t) c1 c2
        have vn : (aG w 75 k3 + xn).toInt = askS A B n s t (A t) (B t) + n t := zi_add (va k3 hk3) b3 (by omega) (by omega)
        have aq1 := aqW_s (y := aG w 75 k3 + xn) hS A9 B9 hk3
        have v4 : (aG (aS w 75 k3 (aG w 75 k3 + xn)) 75 k4).toInt = askS A B n s t (A t) (B t) + n t := by
          rw [aG_n hk4]
          show aqW _ (A t) (B t) = _
          rw [aq1 (A t) (B t) A9 B9, if_pos ⟨rfl, rfl⟩, vn]
        have v5 : (aG (aS w 75 k3 (aG w 75 k3 + xn)) 74 k5).toInt = rmW w0 (A t) (B t) := vr _ k5 (gA_aS_ne (by decide)) hk5
        have d1 : (aG w 75 k1 - aG w 74 k2).toInt = askS A B n s t (A t) (B t) - rmW w0 (A t) (B t) := zi_sub (va k1 hk1) (vr w k2 rfl hk2) (by omega) (by omega)
        have d2 : (aG (aS w 75 k3 (aG w 75 k3 + xn)) 75 k4 - aG (aS w 75 k3 (aG w 75 k3 + xn)) 74 k5).toInt = askS A B n s t (A t) (B t) + n t - rmW w0 (A t) (B t) := zi_sub v4 v5 (by omega) (by omega)
        have mx : ∀ (q : Int32) (e : Int), q.toInt = e → (if 0 < q then q else 0).toInt = psI e := by
          intro q e he
          unfold psI
          by_cases c : 0 < q
          · rw [if_pos c, he]
            rw [Int32.lt_iff_toInt_lt, z32, he] at c
            omega
          · rw [if_neg c, z32]
            rw [Int32.lt_iff_toInt_lt, z32, he] at c
            omega
        have m1 := mx _ _ d1
        have m2 := mx _ _ d2
        -- the surplus
        have sA : ∀ w1 : pm_W, spW w1 = spW w → (aG w1 76 xa).toInt = surS A B n s t (A t) := fun w1 hw => by
          rw [aG_n b1]
          show spW w1 (A t) = _
          rw [hw]
          exact hs _ A9
        obtain ⟨q5, q6⟩ := sur_b (A := A) (B := B) (s := s) (p := A t) hn t (by omega)
        obtain ⟨q7, q8⟩ := sur_b (A := A) (B := B) (s := s) (p := B t) hn t (by omega)
        have s1 : (aG (aS w 75 k3 (aG w 75 k3 + xn)) 76 xa - xn).toInt = surS A B n s t (A t) - n t := zi_sub (sA _ sp_75) b3 (by omega) (by omega)
        have S2 : SK (aS (aS w 75 k3 (aG w 75 k3 + xn)) 76 xa (aG (aS w 75 k3 (aG w 75 k3 + xn)) 76 xa - xn)) := SK_aS S1
        obtain ⟨W2, hW2⟩ : ∃ W2, W2 = aS (aS w 75 k3 (aG w 75 k3 + xn)) 76 xa (aG (aS w 75 k3 (aG w 75 k3 + xn)) 76 xa - xn) := ⟨_, rfl⟩
        rw [← hW2] at h S2
        have sp2 : ∀ q, spW W2 q = if q = A t then surS A B n s t (A t) - n t else spW w q := fun q => by
          rw [hW2, spW_s S1 b1 A9, s1, sp_75]
        have sB : (aG W2 76 xb).toInt = if B t = A t then surS A B n s t (A t) - n t else surS A B n s t (B t) := by
          rw [aG_n b2]
          show spW W2 (B t) = _
          rw [sp2, hs _ B9]
        have s2 : (aG W2 76 xb + xn).toInt = (if B t = A t then surS A B n s t (A t) - n t else surS A B n s t (B t)) + n t := zi_add sB b3 (by split <;> omega) (by split <;> omega)
        have sp3 := spW_s (y := aG W2 76 xb + xn) S2 b2 B9
        have f4 : FM [] [75, 76] w (aS W2 76 xb (aG W2 76 xb + xn)) := by
          have f1 : FM [] [75, 76] w (aS w 75 k3 (aG w 75 k3 + xn)) := FM_aS hS (by decide)
          have f2 : FM [] [75, 76] (aS w 75 k3 (aG w 75 k3 + xn)) W2 := by rw [hW2]; exact FM_aS S1 (by decide)
          exact FM_trans f1 (FM_trans f2 (FM_aS S2 (by decide)))
        have eaq : ∀ i j, askS A B n s (t + 1) i j = if i = A t ∧ j = B t then askS A B n s t (A t) (B t) + n t else askS A B n s t i j := by
          intro i j
          rw [ask_s, hb]
          by_cases e : i = A t ∧ j = B t
          · rw [if_pos e, if_pos ⟨rfl, e.1.symm, e.2.symm⟩, e.1, e.2]
          · rw [if_neg e, if_neg (fun z => e ⟨z.2.1.symm, z.2.2.symm⟩)]; omega
        have hl := lack_s (R := rmW w0) (ask := askS A B n s t) (ask' := askS A B n s (t + 1)) (d := askS A B n s t (A t) (B t) + n t) c1 c2 eaq
        have l1 := lb t (by omega)
        have l2 := lb (t + 1) (by omega)
        have l3 := lack_nn (R := rmW w0) (ask := askS A B n s t) (P := P)
        have l4 := lack_nn (R := rmW w0) (ask := askS A B n s (t + 1)) (P := P)
        refine ih (t + 1) _ _ _ _ _ _ _ (FM_trans fm f4) e1 (by omega) (fun i j hi hj => ?_) (fun p hp => ?_) ?_ h
        · rw [eaq, show aqW (aS W2 76 xb (aG W2 76 xb + xn)) i j = aqW (aS w 75 k3 (aG w 75 k3 + xn)) i j by rw [aq_76, hW2, aq_76], aq1 i j hi hj, vn, ha i j hi hj]
        · rw [sp3 p, s2, sp2, sur_s, hb, if_pos rfl]
          by_cases e1 : p = B t
          · rw [if_pos e1, if_pos e1.symm, e1]
            by_cases e2 : B t = A t
            · rw [if_pos e2, if_pos e2.symm, e2]; omega
            · rw [if_neg e2, if_neg (show ¬ A t = B t from fun z => e2 z.symm)]; omega
          · rw [if_neg e1, if_neg (show ¬ B t = p from fun z => e1 z.symm)]
            by_cases e2 : p = A t
            · rw [if_pos e2, if_pos e2.symm, e2]; omega
            · rw [if_neg e2, if_neg (show ¬ A t = p from fun z => e2 z.symm), hs p hp]; omega
        · rw [zi_add h2 (zi_sub m2 m1 (by unfold psI; omega) (by unfold psI; omega)) (by omega) (by omega), hl]
theorem F170 (hS : SK w) (hV : WSH w P W A B n) (hR : ∀ i j, i < P → j < P → 0 ≤ rmW w i j ∧ rmW w i j ≤ 1000) (hm1 : MSK p1 7 (fun b => s.testBit b)) (h : PS X k 170 0 [.ref 68, .int p1, pm_dead, pm_dead, pm_dead, pm_dead, pm_dead, pm_dead] [] w r w') : FM [] [75, 76] w w' ∧ (∀ i j, i < 9 → j < 9 → aqW w' i j = askS A B n s W i j) ∧ (∀ p, p < 9 → spW w' p = surS A B n s W p) ∧ ∃ z : Int32, r = some (.int z) ∧ z.toInt = lackS (rmW w) (askS A B n s W) P := by
  cases k with
  | zero => exact (PS_0 h).elim
  | succ k =>
    obtain ⟨q1, w2, y, h⟩ := U170_0 hS h
    obtain ⟨a1, f1, l1⟩ := F20_n (N := 81) hS (by decide +kernel) (l75 hS) (by decide) y
    have S2 := f1.2.2.2
    obtain ⟨q3, w4, y4, h⟩ := h a1 S2
    obtain ⟨a2, f2, l2⟩ := F20_n (N := 9) S2 (by decide +kernel) (l76 S2) (by decide) y4
    have h := h a2 f2.2.2.2
    have f3 : FM [] [75, 76] w w4 := FM_trans (FM_mono f1 (by intro x hx; cases hx) (by decide)) (FM_mono f2 (by intro x hx; cases hx) (by decide))
    have er : rmW w4 = rmW w := by funext i j; unfold rmW; rw [FM_a f3 (by decide)]
    have z0 : lackS (rmW w4) (askS A B n s 0) P = 0 := lack_0 (fun i j hi hj => by
      rw [er]
      have := hR i j hi hj
      show (0 : Int) - _ ≤ 0
      omega)
    obtain ⟨b1, b2, b3, b4⟩ := F170_20 (w0 := w4) (WSH_fm hV f3 (by intro p hp; cases hp) (by decide)) (by rw [er]; exact hR) hm1 k 0 w4 0 0 _ _ _ _ (FM_refl f2.2.2.2) z32 (Nat.zero_le _) (fun i j hi hj => by
      unfold aqW
      rw [FM_a f2 (by decide), l1 _ (by omega), z32]
      rfl) (fun p hp => by
      unfold spW
      rw [l2 p hp, z32]
      rfl) (by rw [z0, z32]) h
    rw [er] at b4
    exact ⟨FM_trans f3 b1, b2, b3, b4⟩
end IPC
