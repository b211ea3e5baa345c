/-! ===== what can't go round; can a set of wants be had (the class) ===== -/
section IQU
variable {X : pm_X} {k k2 : Nat} {w0 w w1 w2 w3 w4 w5 wj w' : pm_W} {r r2 q0 q1 q2 : Option Value} {p1 p2 p3 p4 p5 i1 i2 i3 i4 i5 i6 i7 i8 z z1 z2 x y : Int32} {i v j m u P t s b Q I J K a T p W M N κ : Nat} {R R' C ask c : Nat → Nat → Int} {e g d sl : Int} {A B : Nat → Nat} {n o : Nat → Int} {S : Nat → Bool}
/-- with two ends -/
def c12 (c : Nat → Nat → Int) (o : Nat → Int) (P a b : Nat) : Int := if a < 10 ∧ b < 10 then c a b else if a = 10 ∧ b < P then psI (o b) else if a < P ∧ b = 11 then psI (-o a) else 0
theorem cut_12 (hP : P ≤ 9) (ho : ∀ p, P ≤ p → o p = 0) (h1 : S 10 = true) (h2 : S 11 = false) : cutC (c12 c o P) S 12 = CUTo c o S 10 := by
  have lo : ∀ a, a < 10 → suI (fun b => bz (!S b) (c12 c o P a b)) 12 = suI (fun b => bz (!S b) (c a b)) 10 + psI (-o a) := by
    intro a ha
    show suI _ 10 + bz (!S 10) (c12 c o P a 10) + bz (!S 11) (c12 c o P a 11) = _
    rw [h1, h2]
    show suI _ 10 + 0 + c12 c o P a 11 = _
    have e : c12 c o P a 11 = psI (-o a) := by
      unfold c12
      rw [if_neg (by omega), if_neg (by omega)]
      by_cases c : a < P
      · rw [if_pos ⟨c, rfl⟩]
      · rw [if_neg (fun z => c z.1), ho a (by omega)]; rfl
    rw [e, suI_cg (g := fun b => bz (!S b) (c a b)) 10 (fun b hb => by
      unfold c12
      rw [if_pos ⟨ha, hb⟩])]
    try omega
  have hi : suI (fun b => bz (!S b) (c12 c o P 10 b)) 12 = suI (fun b => bz (!S b) (psI (o b))) 10 := by
    show suI _ 10 + bz (!S 10) (c12 c o P 10 10) + bz (!S 11) (c12 c o P 10 11) = _
    rw [h1, h2]
    have e : c12 c o P 10 11 = 0 := by
      unfold c12
      rw [if_neg (by omega), if_neg (by omega), if_neg (by omega)]
    show suI _ 10 + 0 + c12 c o P 10 11 = _
    rw [e, suI_cg (g := fun b => bz (!S b) (psI (o b))) 10 (fun b hb => by
      congr 1
      unfold c12
      rw [if_neg (by omega)]
      by_cases c : b < P
      · rw [if_pos ⟨rfl, c⟩]
      · rw [if_neg (fun z => c z.2), if_neg (by omega), ho b (by omega)]; rfl)]
    try omega
  unfold CUTo cutC
  show suI (fun a => bz (S a) (suI (fun b => bz (!S b) (c12 c o P a b)) 12)) 10 + bz (S 10) (suI (fun b => bz (!S b) (c12 c o P 10 b)) 12) + bz (S 11) _ = _
  rw [h1, h2, bz_t, bz_f, hi, suI_cg (g := fun a => bz (S a) (suI (fun b => bz (!S b) (c a b)) 10) + bz (S a) (psI (-o a))) 10 (fun a ha => by
    rw [lo a ha]
    cases S a
    · rfl
    · rfl), suI_add 10, suI_add 10]
  omega
theorem MC_12 (hP : P ≤ 9) (ho : ∀ p, P ≤ p → o p = 0) (h : MCst (c12 c o P) 12 10 11 e) : MCo c o 10 e := by
  obtain ⟨h1, S, h2, h3, h4⟩ := h
  refine ⟨fun S' => ?_, S, by rw [← cut_12 hP ho h2 h3]; exact h4⟩
  have q := h1 (fun a => if a < 10 then S' a else decide (a = 10)) rfl rfl
  rw [cut_12 hP ho rfl rfl] at q
  have e2 : CUTo c o (fun a => if a < 10 then S' a else decide (a = 10)) 10 = CUTo c o S' 10 := by
    have g : ∀ a, a < 10 → (fun a => if a < 10 then S' a else decide (a = 10)) a = S' a := fun a ha => if_pos ha
    generalize (fun a => if a < 10 then S' a else decide (a = 10)) = S2 at g ⊢
    have e3 : cutC c S2 10 = cutC c S' 10 := by
      unfold cutC
      refine suI_cg 10 (fun a ha => ?_)
      rw [g a ha]
      congr 1
      refine suI_cg 10 (fun b hb => ?_)
      rw [g b hb]
    have e4 : suI (fun a => bz (!S2 a) (psI (o a)) + bz (S2 a) (psI (-o a))) 10 = suI (fun a => bz (!S' a) (psI (o a)) + bz (S' a) (psI (-o a))) 10 := suI_cg 10 (fun a ha => by rw [g a ha])
    unfold CUTo
    rw [e3, e4]
  rw [e2] at q
  exact q
theorem sur_hi (hA : ∀ κ, κ < W → A κ < P ∧ B κ < P) (hp : P ≤ p) : ∀ t, t ≤ W → surS A B n s t p = 0 := by
  intro t
  induction t with
  | zero => intro _; rfl
  | succ t ih =>
    intro ht
    obtain ⟨h1, h2⟩ := hA t (by omega)
    rw [sur_s, ih (by omega), if_neg (show ¬ B t = p by omega), if_neg (show ¬ A t = p by omega)]
    split <;> rfl
theorem capS_b (hR : ∀ i j, i < P → j < P → R i j ≤ 1000 ∧ 0 ≤ ask i j) (hs : 0 ≤ sl ∧ sl ≤ 99) (i j : Nat) : 0 ≤ capS R ask P sl i j ∧ capS R ask P sl i j ≤ 1000 := by
  unfold capS
  by_cases c : i < P ∧ j < P
  · rw [if_pos c]
    have := hR i j c.1 c.2
    unfold psI
    omega
  · rw [if_neg c]
    split <;> omega
/-- laid up to a, b -/
def LAYc (c : Nat → Nat → Int) (P a b i j : Nat) : Int := if (i < a ∧ j < P) ∨ (i < a ∧ j = 9) ∨ (i = 9 ∧ j < a) ∨ (i = 10 ∧ j < a) ∨ (i < a ∧ j = 11) ∨ (i = a ∧ j < b) then c i j else 0
theorem F171_l (hg : gR w0 68 0 = v) (hv : v < 60) (hP : (gI w0 v 0).toInt = P) (hP9 : P ≤ 9) (h1 : i1.toInt = sl) (hsl : 0 ≤ sl ∧ sl ≤ 99) (hR : ∀ i j, i < P → j < P → (0 ≤ rmW w0 i j ∧ rmW w0 i j ≤ 1000) ∧ 0 ≤ aqW w0 i j ∧ aqW w0 i j ≤ 1000) (ho : ∀ p, P ≤ p → o p = 0) (hso : ∀ p, p < P → spW w0 p = o p) (hob : ∀ p, -1000 ≤ o p ∧ o p ≤ 1000) (hc : c = c12 (capS (rmW w0) (aqW w0) P sl) o P) : ∀ k : Nat,
    (∀ (w : pm_W) (a : Nat) (i2 i3 : Int32) (u4 : Value), FM [] [80] w0 w → i3.toInt = a → a ≤ P → (∀ i j, i < 12 → j < 12 → frC w i j = LAYc c P a 0 i j) → i2.toInt = suI (fun p => psI (o p)) a → PS X k 171 11 [.ref 68, .int i1, .int i2, .int i3, u4] [] w r w' → FM [] [80, 81, 82] w0 w' ∧ ∃ (z : Int32) (x : Int), r = some (.int z) ∧ z.toInt = suI (fun p => psI (o p)) P - x ∧ MCst c 12 10 11 x) ∧
    (∀ (w : pm_W) (a b : Nat) (i2 i3 i4 : Int32), FM [] [80] w0 w → i3.toInt = a → a < P → i4.toInt = b → b ≤ P → (∀ i j, i < 12 → j < 12 → frC w i j = LAYc c P a b i j) → i2.toInt = suI (fun p => psI (o p)) a → PS X k 171 25 [.ref 68, .int i1, .int i2, .int i3, .int i4] [] w r w' → FM [] [80, 81, 82] w0 w' ∧ ∃ (z : Int32) (x : Int), r = some (.int z) ∧ z.toInt = suI (fun p => psI (o p)) P - x ∧ MCst c 12 10 11 x) := by
  have e10 : (10 : Int32).toInt = (10 : Nat) := by decide +kernel
  have e11 : (11 : Int32).toInt = (11 : Nat) := by decide +kernel
  have e9 : (9 : Int32).toInt = (9 : Nat) := by decide +kernel
  have mx : ∀ (q : Int32) (e : Int), q.toInt = e → (if 0 < q then q else 0).toInt = psI e := by
    intro q e he
    unfold psI
    by_cases c : 0 < q
    · rw [if_pos c, he]
      rw [Int32.lt_iff_toInt_lt, z32, he] at c
      omega
    · rw [if_neg c, z32]
      rw [Int32.lt_iff_toInt_lt, z32, he] at c
      omega
  have cb : ∀ i j, 0 ≤ c i j ∧ c i j ≤ 1000 := by
    intro i j
    rw [hc]
    unfold c12
    by_cases q1 : i < 10 ∧ j < 10
    · rw [if_pos q1]; exact capS_b (fun i j hi hj => ⟨(hR i j hi hj).1.2, (hR i j hi hj).2.1⟩) hsl i j
    · rw [if_neg q1]
      have b1 := hob i
      have b2 := hob j
      unfold psI
      split
      · omega
      · split <;> omega
  have db : ∀ a, a ≤ P → 0 ≤ suI (fun p => psI (o p)) a ∧ suI (fun p => psI (o p)) a ≤ 1000 * a := by
    intro a
    induction a with
    | zero => intro _; exact ⟨Int.le_refl _, Int.le_refl _⟩
    | succ a ih =>
      intro ha
      have q := ih (by omega)
      have b := hob a
      show 0 ≤ suI _ a + psI (o a) ∧ suI _ a + psI (o a) ≤ 1000 * ((a + 1 : Nat) : Int)
      unfold psI at q ⊢
      omega
  intro k
  induction k with
  | zero => exact ⟨fun _ _ _ _ _ _ _ _ _ _ h => (PS_0 h).elim, fun _ _ _ _ _ _ _ _ _ _ _ _ _ h => (PS_0 h).elim⟩
  | succ k ih =>
    obtain ⟨ih11, ih25⟩ := ih
    refine ⟨fun w a i2 i3 u4 fm h3 ha hf h2 h => ?_, fun w a b i2 i3 i4 fm h3 ha h4 hb hf h2 h => ?_⟩
    · have hS : SK w := fm.2.2.2
      have h := U171_11 hS h
      rw [FM_r fm (by simp), hg, FM_i fm (by simp)] at h
      by_cases q : gI w0 v 0 ≤ i3
      · rw [if_pos q] at h
        rw [Int32.le_iff_toInt_le, hP, h3] at q
        have e : a = P := by omega
        rw [e] at hf h2
        obtain ⟨q1, w2, y, h5⟩ := h
        have fc : ∀ i j, i < 12 → j < 12 → frC w i j = c i j := by
          intro i j hi hj
          rw [hf i j hi hj]
          unfold LAYc
          by_cases q1 : (i < P ∧ j < P) ∨ (i < P ∧ j = 9) ∨ (i = 9 ∧ j < P) ∨ (i = 10 ∧ j < P) ∨ (i < P ∧ j = 11) ∨ (i = P ∧ j < 0)
          · rw [if_pos q1]
          · rw [if_neg q1, hc]
            unfold c12 capS
            by_cases q2 : i < 10 ∧ j < 10
            · rw [if_pos q2, if_neg (by omega), if_neg (by omega)]
            · rw [if_neg q2, if_neg (by omega), if_neg (by omega)]
        obtain ⟨f2, z, a1, a2⟩ := F164 (c := c) (s := 10) (t := 11) hS e10 e11 (by decide) (by decide) (by decide) fc (fun i j _ _ => (cb i j).1) (fun i j _ _ => by have := (cb i j).2; have := (cb j i).2; omega) (by
          have q := suI_le (f := fun b => c 10 b) (g := fun _ => 1000) 12 (fun b _ => (cb 10 b).2)
          have : suI (fun _ => (1000 : Int)) 12 = 12000 := by decide
          omega) y
        have h := h5 _ a1 f2.2.2.2
        rw [h.2]
        have zb : 0 ≤ z.toInt ∧ z.toInt ≤ 100000 := by
          obtain ⟨m1, S, m2, m3, m4⟩ := a2
          constructor
          · rw [m4]
            unfold cutC
            refine suI_nn (fun a _ => ?_)
            cases S a
            · exact Int.le_refl _
            · rw [bz_t]
              refine suI_nn (fun b _ => ?_)
              cases S b
              · exact (cb a b).1
              · exact Int.le_refl _
          · have q := m1 (fun a => decide (a = 10)) rfl rfl
            have q2 : cutC c (fun a => decide (a = 10)) 12 ≤ suI (fun a => if a = 10 then 12000 else 0) 12 := by
              unfold cutC
              refine suI_le 12 (fun a _ => ?_)
              by_cases e : a = 10
              · rw [if_pos e]
                show bz (decide (a = 10)) _ ≤ _
                rw [decide_eq_true e, bz_t]
                have q := suI_le (f := fun b => bz (!decide (b = 10)) (c a b)) (g := fun _ => 1000) 12 (fun b _ => by
                  have := cb a b
                  show bz (!decide (b = 10)) (c a b) ≤ 1000
                  unfold bz
                  split <;> omega)
                have : suI (fun _ => (1000 : Int)) 12 = 12000 := by decide
                exact Int.le_trans q (by omega)
              · rw [if_neg e]
                show bz (decide (a = 10)) _ ≤ _
                rw [decide_eq_false e]
                exact Int.le_refl _
            rw [suI_one 12 (by decide)] at q2
            omega
        have dd := db P (Nat.le_refl _)
        refine ⟨FM_trans (FM_mono fm (by intro x hx; cases hx) (by decide)) f2, _, z.toInt, h.1, ?_, a2⟩
        rw [zi_sub h2 rfl (by omega) (by omega)]
      · rw [if_neg q] at h
        rw [Int32.le_iff_toInt_le, hP, h3] at q
        exact ih25 w a 0 i2 i3 0 fm h3 (by omega) z32 (Nat.zero_le _) hf h2 h
    · have hS : SK w := fm.2.2.2
      have h := U171_25 hS h
      rw [FM_r fm (by simp), hg, FM_i fm (by simp)] at h
      by_cases q : gI w0 v 0 ≤ i4
      · rw [if_pos q] at h
        rw [Int32.le_iff_toInt_le, hP, h4] at q
        have eb : b = P := by omega
        rw [eb] at hf
        obtain ⟨r1, w2, y1, h⟩ := h
        obtain ⟨a1, f1, l1⟩ := FALw hS h3 e9 (by omega) (by decide) y1
        have S1 := f1.2.2.2
        obtain ⟨r3, w4, y2, h⟩ := h a1 S1
        obtain ⟨a2, f2, l2⟩ := FALw S1 e9 h3 (by decide) (by omega) y2
        have S2 := f2.2.2.2
        obtain ⟨_, r5, w6, y3, h⟩ := h a2 S2
        obtain ⟨a3, f3, l3⟩ := FALw S2 e10 h3 (by decide) (by omega) y3
        have S3 := f3.2.2.2
        obtain ⟨_, r7, w8, y4, h⟩ := h a3 S3
        obtain ⟨a4, f4, l4⟩ := FALw S3 h3 e11 (by omega) (by decide) y4
        have S4 := f4.2.2.2
        obtain ⟨_, h⟩ := h a4 S4
        have so : ∀ w1, FM [] [80] w w1 → (aG w1 76 i3).toInt = o a := fun w1 hw => by
          rw [aG_n h3, FM_a hw (by decide), FM_a fm (by decide)]
          exact hso a ha
        have f12 := FM_trans f1 f2
        have f123 := FM_trans f12 f3
        have f1234 := FM_trans f123 f4
        have v3 := mx _ _ (so w4 f12)
        have ba := hob a
        have v4 := mx _ _ (zi_neg (so w6 f123) (by omega) (by omega))
        have v5 := mx _ _ (so w8 f1234)
        rw [h1] at l1 l2
        rw [v3] at l3
        rw [v4] at l4
        have da := db a (by omega)
        have da1 := db (a + 1) (by omega)
        have ds : suI (fun p => psI (o p)) (a + 1) = suI (fun p => psI (o p)) a + psI (o a) := rfl
        refine ih11 w8 (a + 1) _ _ _ (FM_trans fm f1234) (by rw [zi_inc (n := 40) (by omega) (by omega), h3]; rfl) (by omega) (fun i j hi hj => ?_) (by rw [zi_add h2 v5 (by omega) (by omega), ds]) h
        rw [l4 i j hi hj, l3 i j hi hj, l2 i j hi hj, l1 i j hi hj, hf i j hi hj]
        have cc : ∀ i j, c i j = if i < 10 ∧ j < 10 then capS (rmW w0) (aqW w0) P sl i j else if i = 10 ∧ j < P then psI (o j) else if i < P ∧ j = 11 then psI (-o i) else 0 := fun i j => by rw [hc]; rfl
        by_cases k1 : i = a ∧ j = 11
        · rw [if_pos k1]
          unfold LAYc
          rw [if_pos (by omega), cc, if_neg (by omega), if_neg (by omega), if_pos (by omega), k1.1]
        · rw [if_neg k1]
          by_cases k2 : i = 10 ∧ j = a
          · rw [if_pos k2]
            unfold LAYc
            rw [if_pos (by omega), cc, if_neg (by omega), if_pos (by omega), k2.2]
          · rw [if_neg k2]
            by_cases k3 : i = 9 ∧ j = a
            · rw [if_pos k3]
              unfold LAYc
              rw [if_pos (by omega), cc, if_pos (by omega)]
              unfold capS
              rw [if_neg (by omega), if_pos (by omega)]
            · rw [if_neg k3]
              by_cases k4 : i = a ∧ j = 9
              · rw [if_pos k4]
                unfold LAYc
                rw [if_pos (by omega), cc, if_pos (by omega)]
                unfold capS
                rw [if_neg (by omega), if_pos (by omega)]
              · rw [if_neg k4]
                unfold LAYc
                by_cases k5 : (i < a ∧ j < P) ∨ (i < a ∧ j = 9) ∨ (i = 9 ∧ j < a) ∨ (i = 10 ∧ j < a) ∨ (i < a ∧ j = 11) ∨ (i = a ∧ j < P)
                · rw [if_pos k5, if_pos (by omega)]
                · rw [if_neg k5, if_neg (by omega)]
      · rw [if_neg q] at h
        rw [Int32.le_iff_toInt_le, hP, h4] at q
        obtain ⟨k1, hk1, h⟩ := use_z hS h (fun _ _ t => F52n hS h3 h4 (by omega) (by omega) t)
        obtain ⟨_, h⟩ := h
        obtain ⟨k2, hk2, h⟩ := use_z hS h (fun _ _ t => F52n hS h3 h4 (by omega) (by omega) t)
        obtain ⟨_, r15, w16, y1, h⟩ := h
        obtain ⟨a1, f1, l1⟩ := FALw hS h3 h4 (by omega) (by omega) y1
        have h := h a1 f1.2.2.2
        obtain ⟨⟨g1, g2⟩, g3, g4⟩ := hR a b ha (by omega)
        have v1 : (aG w 74 k1).toInt = rmW w0 a b := by rw [aG_n hk1, FM_a fm (by decide)]; rfl
        have v2 : (aG w 75 k2).toInt = aqW w0 a b := by rw [aG_n hk2, FM_a fm (by decide)]; rfl
        have v3 := mx _ _ (zi_sub v1 v2 (by omega) (by omega))
        rw [v3] at l1
        refine ih25 w16 a (b + 1) i2 i3 _ (FM_trans fm f1) h3 ha (by rw [zi_inc (n := 40) (by omega) (by omega), h4]; rfl) (by omega) (fun i j hi hj => ?_) h2 h
        rw [l1 i j hi hj, hf i j hi hj]
        unfold LAYc
        by_cases k1 : i = a ∧ j = b
        · rw [if_pos k1, if_pos (by omega), hc]
          unfold c12 capS
          rw [if_pos (by omega), if_pos (by omega), k1.1, k1.2]
        · rw [if_neg k1]
          by_cases k5 : (i < a ∧ j < P) ∨ (i < a ∧ j = 9) ∨ (i = 9 ∧ j < a) ∨ (i = 10 ∧ j < a) ∨ (i < a ∧ j = 11) ∨ (i = a ∧ j < b)
          · rw [if_pos k5, if_pos (by omega)]
          · rw [if_neg k5, if_neg (by omega)]
theorem F171 (hS : SK w) (hg : gR w 68 0 = v) (hv : v < 60) (hP : (gI w v 0).toInt = P) (hP9 : P ≤ 9) (h1 : p1.toInt = sl) (hsl : 0 ≤ sl ∧ sl ≤ 99) (hR : ∀ i j, i < P → j < P → (0 ≤ rmW w i j ∧ rmW w i j ≤ 1000) ∧ 0 ≤ aqW w i j ∧ aqW w i j ≤ 1000) (ho : ∀ p, P ≤ p → o p = 0) (hso : ∀ p, p < P → spW w p = o p) (hob : ∀ p, -1000 ≤ o p ∧ o p ≤ 1000) (h : PS X k 171 0 [.ref 68, .int p1, pm_dead, pm_dead, pm_dead] [] w r w') : FM [] [80, 81, 82] w w' ∧ ∃ (z : Int32) (x : Int), r = some (.int z) ∧ z.toInt = suI (fun p => psI (o p)) 10 - x ∧ MCo (capS (rmW w) (aqW w) P sl) o 10 x := by
  cases k with
  | zero => exact (PS_0 h).elim
  | succ k =>
    obtain ⟨q1, w2, y, h⟩ := U171_0 hS h
    obtain ⟨a1, f2, l2⟩ := F162 hS y
    have h := h a1 f2.2.2.2
    obtain ⟨b1, z, x, b2, b3, b4⟩ := (F171_l hg hv hP hP9 h1 hsl hR ho hso hob rfl k).1 w2 0 0 0 _ f2 z32 (Nat.zero_le _) (fun i j hi hj => by
      rw [l2 i j hi hj]
      unfold LAYc
      rw [if_neg (by omega)]) z32 h
    refine ⟨b1, z, x, b2, ?_, MC_12 hP9 ho b4⟩
    rw [b3]
    congr 1
    exact (suI_ext (show P ≤ 10 by omega) (fun p h1 _ => by rw [ho p h1]; rfl)).symm
/-- a set of wants can be had -/
def CANH (R : Nat → Nat → Int) (P W : Nat) (A B : Nat → Nat) (n : Nat → Int) (s : Nat) (sl : Int) : Prop := (∀ i j, i < P → j < P → askS A B n s W i j ≤ R i j) ∧ MCo (capS R (askS A B n s W) P sl) (surS A B n s W) 10 (suI (fun p => psI (surS A B n s W p)) 10)
theorem capS_cg {ask' : Nat → Nat → Int} (h : ∀ i j, i < P → j < P → R i j = R' i j ∧ ask i j = ask' i j) : capS R ask P sl = capS R' ask' P sl := by
  funext i j
  unfold capS
  by_cases c : i < P ∧ j < P
  · rw [if_pos c, if_pos c, (h i j c.1 c.2).1, (h i j c.1 c.2).2]
  · rw [if_neg c, if_neg c]
theorem F169 (hS : SK w) (hV : WSH w P W A B n) (hR : ∀ i j, i < P → j < P → 0 ≤ rmW w i j ∧ rmW w i j ≤ 1000) (hm1 : MSK p1 7 (fun b => s.testBit b)) (h2 : p2.toInt = sl) (hsl : 0 ≤ sl ∧ sl ≤ 99) (h : PS X k 169 0 [.ref 68, .int p1, .int p2] [] w r w') : FM [] [75, 76, 80, 81, 82] w w' ∧ ∃ b : Bool, r = some (.int (b2i b)) ∧ (b = true ↔ CANH (rmW w) P W A B n s sl) := by
  cases k with
  | zero => exact (PS_0 h).elim
  | succ k =>
    obtain ⟨q1, w2, y, h⟩ := U169_0 hS h
    obtain ⟨f1, a1, a2, z, a3, a4⟩ := F170 hS hV hR hm1 y
    have S2 := f1.2.2.2
    have h := h _ a3 S2
    have er : rmW w2 = rmW w := by funext i j; unfold rmW; rw [FM_a f1 (by decide)]
    obtain ⟨v, b1, b2, b3, b4, b5, b6, b7, b8, b9⟩ := WSH_fm hV f1 (by intro p hp; cases hp) (by decide)
    have hn : ∀ κ, κ < W → 1 ≤ n κ ∧ n κ ≤ 99 := fun κ hκ => ⟨(b9 κ hκ).2.2.1, (b9 κ hκ).2.2.2⟩
    have hAB : ∀ κ, κ < W → A κ < P ∧ B κ < P := fun κ hκ => ⟨(b9 κ hκ).1, (b9 κ hκ).2.1⟩
    by_cases c : z = 0
    · rw [if_pos c] at h
      rw [c, z32] at a4
      obtain ⟨q4, w5, y5, h⟩ := h
      obtain ⟨f5, z5, x, c1, c2, c3⟩ := F171 (o := surS A B n s W) S2 b1 (by omega) b2 b3 h2 hsl (fun i j hi hj => by
        rw [er, a1 i j (by omega) (by omega)]
        have := ask_b (A := A) (B := B) (s := s) (i := i) (j := j) hn W (Nat.le_refl _)
        exact ⟨hR i j hi hj, by omega, by omega⟩) (fun p hp => sur_hi hAB hp W (Nat.le_refl _)) (fun p hp => a2 p (by omega)) (fun p => by
        have := sur_b (A := A) (B := B) (s := s) (p := p) hn W (Nat.le_refl _)
        omega) y5
      have ecap : capS (rmW w2) (aqW w2) P sl = capS (rmW w) (askS A B n s W) P sl := capS_cg (fun i j hi hj => ⟨by rw [er], a1 i j (by omega) (by omega)⟩)
      rw [ecap] at c3
      have h := h _ c1 f5.2.2.2
      have f15 := FM_trans (FM_mono f1 (by intro x hx; cases hx) (by decide)) (FM_mono f5 (by intro x hx; cases hx) (by decide) : FM [] [75, 76, 80, 81, 82] w2 w5)
      by_cases c5 : z5 = 0
      · rw [if_pos c5] at h
        rw [c5, z32] at c2
        rw [h.2]
        refine ⟨f15, true, h.1, fun _ => ⟨fun i j hi hj => lack_i a4.symm hi hj, ?_⟩, fun _ => rfl⟩
        rw [show suI (fun p => psI (surS A B n s W p)) 10 = x by omega]
        exact c3
      · rw [if_neg c5] at h
        rw [h.2]
        refine ⟨f15, false, h.1, fun z => Bool.noConfusion z, fun hc => ?_⟩
        have u := MCo_uq c3 hc.2
        exact absurd (Int32.toInt_inj.mp (by rw [c2, z32]; omega)) c5
    · rw [if_neg c] at h
      rw [h.2]
      refine ⟨FM_mono f1 (by intro x hx; cases hx) (by decide), false, h.1, fun z => Bool.noConfusion z, fun hc => ?_⟩
      have q := lack_0 (fun i j hi hj => by have := hc.1 i j hi hj; omega : ∀ i j, i < P → j < P → askS A B n s W i j - rmW w i j ≤ 0)
      exact absurd (Int32.toInt_inj.mp (by rw [a4, z32, q])) c
end IQU
