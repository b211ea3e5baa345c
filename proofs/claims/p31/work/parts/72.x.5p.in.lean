/-! ===== weak, much ===== -/
section INW
variable {X : pm_X} {k k2 : Nat} {w0 w w1 w2 w3 w4 w5 wj w' : pm_W} {r r2 q0 q1 q2 : Option Value} {p1 p2 p3 p4 p5 i1 i2 i3 i4 i5 i6 i7 i8 z z1 z2 x y f l f1 f2 l1 l2 : Int32} {i v j m u P t s b Q A B I J K n a T p W M N κ : Nat} {C : Nat → Nat → Int} {e g : Int} {s0 s1 s2 t1 t2 : SN}
/-- pairs looked at so far -/
def prN (P N a b : Nat) : Prop := a < P ∧ b < P ∧ a ≠ b ∧ 9 * a + b < N
/-- the first of the least -/
def WKS (C : Nat → Nat → Int) (P N : Nat) (f l : Int32) : Prop := (f.toInt = -1 ∧ ∀ a b, ¬ prN P N a b) ∨ ∃ a b : Nat, prN P N a b ∧ f.toInt = (9 * a + b : Nat) ∧ MCst C 10 a b l.toInt ∧ ∀ a' b' e, prN P N a' b' → MCst C 10 a' b' e → l.toInt ≤ e ∧ (9 * a' + b' < 9 * a + b → l.toInt < e)
theorem WKS_0 : WKS C P 0 (-1) l := Or.inl ⟨by decide +kernel, fun a b h => Nat.not_lt_zero _ h.2.2.2⟩
theorem WKS_k (h : WKS C P N f l) (hn : N ≤ M) (hk : ∀ a b, a < P → b < P → a ≠ b → 9 * a + b < M → 9 * a + b < N) : WKS C P M f l := by
  have e : ∀ a b, prN P M a b ↔ prN P N a b := fun a b => ⟨fun q => ⟨q.1, q.2.1, q.2.2.1, hk a b q.1 q.2.1 q.2.2.1 q.2.2.2⟩, fun q => ⟨q.1, q.2.1, q.2.2.1, Nat.lt_of_lt_of_le q.2.2.2 hn⟩⟩
  rcases h with ⟨a1, a2⟩ | ⟨a, b, a1, a2, a3, a4⟩
  · exact Or.inl ⟨a1, fun a b q => a2 a b ((e a b).mp q)⟩
  · exact Or.inr ⟨a, b, (e a b).mpr a1, a2, a3, fun a' b' e' q => a4 a' b' e' ((e a' b').mp q)⟩
theorem WKS_n (hP : P ≤ 9) (h : WKS C P N f l) (ha : a < P) (hb : b < P) (hab : a ≠ b) (hN : N = 9 * a + b) (hf : x.toInt = (9 * a + b : Nat)) (hm : MCst C 10 a b y.toInt) (hl : f.toInt = -1 ∨ y.toInt < l.toInt) : WKS C P (N + 1) x y := by
  refine Or.inr ⟨a, b, ⟨ha, hb, hab, by omega⟩, hf, hm, fun a' b' e' q he => ?_⟩
  by_cases eq : 9 * a' + b' = 9 * a + b
  · have : a' = a ∧ b' = b := by have := q.1; have := q.2.1; omega
    rw [this.1, this.2] at he
    rw [MCst_uq he hm]
    exact ⟨Int.le_refl _, fun z => by omega⟩
  · have q' : prN P N a' b' := ⟨q.1, q.2.1, q.2.2.1, by have := q.2.2.2; omega⟩
    rcases h with ⟨_, c2⟩ | ⟨a2, b2, c1, c2, c3, c4⟩
    · exact absurd q' (c2 a' b')
    · have := (c4 a' b' e' q' he).1
      rcases hl with z | z
      · omega
      · exact ⟨by omega, fun _ => by omega⟩
theorem WKS_o (hP : P ≤ 9) (h : WKS C P N f l) (ha : a < P) (hb : b < P) (hab : a ≠ b) (hN : N = 9 * a + b) (hm : MCst C 10 a b g) (hl : f.toInt ≠ -1) (hl2 : l.toInt ≤ g) : WKS C P (N + 1) f l := by
  rcases h with ⟨c1, _⟩ | ⟨a2, b2, c1, c2, c3, c4⟩
  · exact absurd c1 hl
  · refine Or.inr ⟨a2, b2, ⟨c1.1, c1.2.1, c1.2.2.1, by have := c1.2.2.2; omega⟩, c2, c3, fun a' b' e' q he => ?_⟩
    by_cases eq : 9 * a' + b' = 9 * a + b
    · have : a' = a ∧ b' = b := by have := q.1; have := q.2.1; omega
      rw [this.1, this.2] at he
      rw [MCst_uq he hm]
      exact ⟨hl2, fun z => by have := c1.2.2.2; omega⟩
    · exact c4 a' b' e' ⟨q.1, q.2.1, q.2.2.1, by have := q.2.2.2; omega⟩ he
theorem WKS_uq (h1 : WKS C P N f1 l1) (h2 : WKS C P N f2 l2) : f1 = f2 := by
  rcases h1 with ⟨a1, a2⟩ | ⟨a, b, a1, a2, a3, a4⟩
  · rcases h2 with ⟨b1, _⟩ | ⟨a', b', b1, _⟩
    · exact Int32.toInt_inj.mp (by rw [a1, b1])
    · exact absurd b1 (a2 a' b')
  · rcases h2 with ⟨_, b2⟩ | ⟨a', b', b1, b2, b3, b4⟩
    · exact absurd a1 (b2 a b)
    · have q1 := a4 a' b' _ b1 b3
      have q2 := b4 a b _ a1 a3
      have e : 9 * a + b = 9 * a' + b' := by
        by_cases c : 9 * a + b < 9 * a' + b'
        · have := q2.2 c; omega
        · by_cases c2 : 9 * a' + b' < 9 * a + b
          · have := q1.2 c2; omega
          · omega
      exact Int32.toInt_inj.mp (by rw [a2, b2, e])
/-- the class -/
theorem F194_l (hP : (gI w0 (gR w0 68 0) 0).toInt = P) (hP9 : P ≤ 9) (hrm : ∀ a b, a < P → b < P → 0 ≤ rmW w0 a b ∧ rmW w0 a b ≤ 99) (hC : C = cpW (rmW w0) P) : ∀ k : Nat,
    (∀ (w : pm_W) (A : Nat) (i1 i2 i3 : Int32) (u4 u5 : Value), FM [] [80, 81, 82] w0 w → i3.toInt = A → A ≤ P → WKS C P (9 * A) i1 i2 → PS X k 194 6 [.ref 68, .int i1, .int i2, .int i3, u4, u5] [] w r w' → FM [] [80, 81, 82] w0 w' ∧ ∃ f l : Int32, r = some (.int f) ∧ WKS C P (9 * P) f l) ∧
    (∀ (w : pm_W) (A B : Nat) (i1 i2 i3 i4 : Int32) (u5 : Value), FM [] [80, 81, 82] w0 w → i3.toInt = A → A < P → i4.toInt = B → B ≤ P → WKS C P (9 * A + B) i1 i2 → PS X k 194 20 [.ref 68, .int i1, .int i2, .int i3, .int i4, u5] [] w r w' → FM [] [80, 81, 82] w0 w' ∧ ∃ f l : Int32, r = some (.int f) ∧ WKS C P (9 * P) f l) := by
  intro k
  induction k with
  | zero => exact ⟨fun _ _ _ _ _ _ _ _ _ _ _ h => (PS_0 h).elim, fun _ _ _ _ _ _ _ _ _ _ _ _ _ _ h => (PS_0 h).elim⟩
  | succ k ih =>
    obtain ⟨ih6, ih20⟩ := ih
    refine ⟨fun w A i1 i2 i3 u4 u5 fm h3 hA hw h => ?_, fun w A B i1 i2 i3 i4 u5 fm h3 hA h4 hB hw h => ?_⟩
    · have hS : SK w := fm.2.2.2
      have h := U194_6 hS h
      rw [FM_r fm (by simp), FM_i fm (by simp)] at h
      by_cases c : gI w0 (gR w0 68 0) 0 ≤ i3
      · rw [if_pos c] at h
        rw [Int32.le_iff_toInt_le, hP, h3] at c
        have e : A = P := by omega
        rw [e] at hw
        rw [h.2]
        exact ⟨fm, i1, i2, h.1, hw⟩
      · rw [if_neg c] at h
        rw [Int32.le_iff_toInt_le, hP, h3] at c
        exact ih20 w A 0 i1 i2 i3 0 _ fm h3 (by omega) z32 (Nat.zero_le _) hw h
    · have hS : SK w := fm.2.2.2
      have h := U194_20 hS h
      rw [FM_r fm (by simp), FM_i fm (by simp)] at h
      by_cases c : gI w0 (gR w0 68 0) 0 ≤ i4
      · rw [if_pos c] at h
        rw [Int32.le_iff_toInt_le, hP, h4] at c
        exact ih6 w (A + 1) i1 i2 _ _ _ fm (by rw [zi_inc (n := 40) (by omega) (by omega), h3]; rfl) (by omega) (WKS_k hw (by omega) (fun a b ha hb hab hl => by omega)) h
      · rw [if_neg c] at h
        rw [Int32.le_iff_toInt_le, hP, h4] at c
        have e1 : (i4 + 1).toInt = ((B + 1 : Nat) : Int) := by rw [zi_inc (n := 40) (by omega) (by omega), h4]; rfl
        by_cases c2 : i3 = i4
        · rw [if_pos c2, if_pos c2] at h
          have eAB : A = B := by rw [c2, h4] at h3; omega
          exact ih20 w A (B + 1) i1 i2 i3 _ _ fm h3 hA e1 (by omega) (WKS_k hw (by omega) (fun a b ha hb hab hl => by omega)) h
        · rw [if_neg c2] at h
          have eAB : A ≠ B := fun e => c2 (Int32.toInt_inj.mp (by rw [h3, h4, e]))
          obtain ⟨q1, w2, y1, h5⟩ := h
          have er : rmW w = rmW w0 := by funext i j; unfold rmW; rw [FM_a fm (by decide)]
          obtain ⟨f2, zc, d1, d2⟩ := F161 hS (by rw [FM_r fm (by simp), FM_i fm (by simp)]; exact hP) hP9 h3 h4 hA (by omega) eAB (fun a b ha hb => by rw [er]; exact hrm a b ha hb) y1
          have S2 : SK w2 := f2.2.2.2
          have fm2 := FM_trans fm f2
          rw [er, ← hC] at d2
          have d2 : MCst C 10 A B zc.toInt := MCst_ext (by decide) (fun a b _ _ hab => by rw [hC]; exact cpW_z (by omega)) d2
          have h := h5 _ d1 S2
          rw [if_neg c2] at h
          by_cases c3 : i1 = -1
          · rw [if_pos c3] at h
            obtain ⟨c9, hc9, h⟩ := use_z S2 h (fun _ _ t => F52n S2 h3 h4 (by omega) (by omega) t)
            exact ih20 w2 A (B + 1) c9 zc i3 _ _ fm2 h3 hA e1 (by omega) (WKS_n hP9 hw hA (by omega) eAB rfl hc9 d2 (Or.inl (by rw [c3]; decide +kernel))) h
          · rw [if_neg c3] at h
            by_cases c4 : i2 ≤ zc
            · rw [if_pos c4] at h
              rw [Int32.le_iff_toInt_le] at c4
              refine ih20 w2 A (B + 1) i1 i2 i3 _ _ fm2 h3 hA e1 (by omega) (WKS_o hP9 hw hA (by omega) eAB rfl d2 (fun z => c3 (Int32.toInt_inj.mp (by rw [z]; decide +kernel))) c4) h
            · rw [if_neg c4] at h
              rw [Int32.le_iff_toInt_le] at c4
              obtain ⟨c9, hc9, h⟩ := use_z S2 h (fun _ _ t => F52n S2 h3 h4 (by omega) (by omega) t)
              exact ih20 w2 A (B + 1) c9 zc i3 _ _ fm2 h3 hA e1 (by omega) (WKS_n hP9 hw hA (by omega) eAB rfl hc9 d2 (Or.inr (by omega))) h
theorem F194 (hS : SK w) (hP : (gI w (gR w 68 0) 0).toInt = P) (hP9 : P ≤ 9) (hrm : ∀ a b, a < P → b < P → 0 ≤ rmW w a b ∧ rmW w a b ≤ 99) (h : PS X k 194 0 [.ref 68, pm_dead, pm_dead, pm_dead, pm_dead, pm_dead] [] w r w') : FM [] [80, 81, 82] w w' ∧ ∃ f l : Int32, r = some (.int f) ∧ WKS (cpW (rmW w) P) P (9 * P) f l := by
  cases k with
  | zero => exact (PS_0 h).elim
  | succ k => exact (F194_l hP hP9 hrm rfl k).1 w 0 (-1) 0 0 _ _ (FM_refl hS) z32 (Nat.zero_le _) WKS_0 (U194_0 hS h)
/-- the reference -/
theorem F313_28 (hu : u ≤ 1) (hp : i5.toInt = (610 + 132 * u : Nat)) (hP : (al w0 (610 + 132 * u)).toInt = P) (hP9 : P ≤ 9) (hP2 : 2 ≤ P) (hr : ∀ i j, i < P → j < P → 0 ≤ rmA w0 u i j ∧ rmA w0 u i j ≤ 99) (hC : C = cpW (rmA w0 u) P) : ∀ (k N : Nat) (w : pm_W) (i6 i7 i8 : Int32) (u9 : Value), FM [] [160, 161, 162, 163, 164] w0 w → i8.toInt = N → N ≤ 9 * P → WKS C P N i6 i7 → PS X k 313 28 [.ref 147, .int i1, .int i2, .int i3, .int p4, .int i5, .int i6, .int i7, .int i8, u9] [] w r w' → ∃ f l : Int32, WKS C P (9 * P) f l ∧ r = some (.int (if p4 = 0 then f / 9 else f - f / 9 * 9)) := by
  have e9 : (9 : Int32).toInt = 9 := nine32
  intro k
  induction k with
  | zero => intro N w i6 i7 i8 u9 _ _ _ _ h; exact (PS_0 h).elim
  | succ k ih =>
    intro N w i6 i7 i8 u9 fm h8 hN hw h
    have hS : SK w := fm.2.2.2
    have ea : al w = al w0 := al_FM fm (by decide)
    obtain ⟨_, h⟩ := U313_28 hS h
    have eP : aG w 148 i5 = al w0 (610 + 132 * u) := by rw [aG_n hp, ← ea]; rfl
    rw [eP] at h
    have e9P : (9 * al w0 (610 + 132 * u)).toInt = 9 * P := by rw [zi_mul e9 hP (by omega) (by omega)]
    by_cases c : 9 * al w0 (610 + 132 * u) ≤ i8
    · rw [if_pos c] at h
      rw [Int32.le_iff_toInt_le, e9P, h8] at c
      have e : N = 9 * P := by omega
      rw [e] at hw
      refine ⟨i6, i7, hw, ?_⟩
      by_cases c4 : p4 = 0
      · rw [if_pos c4] at h ⊢; exact h.1
      · rw [if_neg c4] at h ⊢; exact h.1
    · rw [if_neg c] at h
      rw [Int32.le_iff_toInt_le, e9P, h8] at c
      have e1 : (i8 + 1).toInt = ((N + 1 : Nat) : Int) := by rw [zi_inc (n := 400) (by omega) (by omega), h8]; rfl
      have q10 : (i8 - i8 / 10 * 10).toInt = (N % 10 : Nat) := zi_rem h8 (b := 10) ten32
      have q9 : (i8 - i8 / 9 * 9).toInt = (N % 9 : Nat) := zi_rem h8 (b := 9) e9
      have d9 : (i8 / 9).toInt = (N / 9 : Nat) := zi_div h8 (b := 9) e9
      by_cases c1 : i8 - i8 / 10 * 10 = 0
      · rw [if_pos c1] at h
        rw [c1, z32] at q10
        exact ih (N + 1) w i6 i7 _ _ fm e1 (by omega) (WKS_k hw (by omega) (fun a b ha hb hab hl => by omega)) h
      · rw [if_neg c1] at h
        have n10 : N % 10 ≠ 0 := fun e => c1 (Int32.toInt_inj.mp (by rw [q10, e, z32]; rfl))
        obtain ⟨_, h⟩ := h
        by_cases c2 : i8 - i8 / 9 * 9 < al w0 (610 + 132 * u)
        · rw [if_pos c2] at h
          rw [Int32.lt_iff_toInt_lt, q9, hP] at c2
          have hA : N / 9 < P := by omega
          have hB : N % 9 < P := by omega
          have hAB : N / 9 ≠ N % 9 := by omega
          have hNe : N = 9 * (N / 9) + N % 9 := by omega
          obtain ⟨q1, w2, y1, h5⟩ := h
          have er : rmA w u = rmA w0 u := by
            funext i j
            unfold rmA
            rw [ea, show dR w = dR w0 from by funext q; unfold dR; rw [FM_a fm (by decide)]]
          obtain ⟨f2, zr, d1, d2⟩ := F312 hS hu hp (by rw [ea]; exact hP) hP9 (by rw [er]; exact hr) d9 q9 hA hB hAB y1
          rw [er, ← hC] at d2
          have he := d2
          have h := h5 _ d1 f2.2.2.2
          have fm2 := FM_trans fm f2
          by_cases c3 : i6 < 0
          · rw [if_pos c3] at h
            rw [Int32.lt_iff_toInt_lt, z32] at c3
            refine ih (N + 1) w2 i8 zr _ _ fm2 e1 (by omega) (WKS_n hP9 hw hA hB hAB hNe (by rw [h8, ← hNe]) he (Or.inl ?_)) h
            rcases hw with ⟨w1, _⟩ | ⟨a, b, _, w1, _⟩
            · exact w1
            · omega
          · rw [if_neg c3] at h
            rw [Int32.lt_iff_toInt_lt, z32] at c3
            by_cases c4 : zr < i7
            · rw [if_pos c4] at h
              rw [Int32.lt_iff_toInt_lt] at c4
              exact ih (N + 1) w2 i8 zr _ _ fm2 e1 (by omega) (WKS_n hP9 hw hA hB hAB hNe (by rw [h8, ← hNe]) he (Or.inr c4)) h
            · rw [if_neg c4] at h
              rw [Int32.lt_iff_toInt_lt] at c4
              exact ih (N + 1) w2 i6 i7 _ _ fm2 e1 (by omega) (WKS_o hP9 hw hA hB hAB hNe he (by omega) (by omega)) h
        · rw [if_neg c2] at h
          rw [Int32.lt_iff_toInt_lt, q9, hP] at c2
          exact ih (N + 1) w i6 i7 _ _ fm e1 (by omega) (WKS_k hw (by omega) (fun a b ha hb hab hl => by omega)) h
/-- weak -/
theorem RC_37 (h3 : RL3 w) (h1 : PS X k 193 0 [.ref 0, .int p1, .int p2, .int p3, .int p4, pm_dead] [] w r w1) (h2 : PS X k2 313 0 [.ref 147, .int p1, .int p2, .int p3, .int p4, pm_dead, pm_dead, pm_dead, pm_dead, pm_dead] [] w1 r2 w2) : r2 = r := by
  have hS := h3.1.1
  cases k with
  | zero => exact (PS_0 h1).elim
  | succ k =>
    cases k2 with
    | zero => exact (PS_0 h2).elim
    | succ k2 =>
      obtain ⟨q1, w3, z, h1⟩ := U193_0 hS h1
      cases k with
      | zero => exact (PS_0 z).elim
      | succ k =>
        obtain ⟨q2, w4, zz, hz⟩ := U173_0 hS z
        obtain ⟨f1, alt⟩ := F98 h3 zz
        have S4 : SK w4 := f1.2.2.2
        have ea := FM_al f1
        rcases alt with ⟨u, s1, a1, a2, a3⟩ | ⟨a1, a2⟩
        · have hz := hz _ a1 S4
          rw [if_neg (by decide +kernel)] at hz
          obtain ⟨q4, w5, y5, h5⟩ := hz
          have hu := a2.2.1
          obtain ⟨v1, v1', v3, v2, v4⟩ := VA_v h3.2 hu
          have bd : ∀ q, 0 ≤ (s1.1 q).toInt ∧ (s1.1 q).toInt ≤ 99 := (LDR_2 h3.2 a2 a2).2.2.2.2.2.1.1.1
          obtain ⟨b1, b2, b3, b4, b5, b6, b7, b8⟩ := LOOK3 h3 f1 hu a3 bd y5
          have S5 : SK w5 := b2.2.2.2
          obtain ⟨c1, c2⟩ := h5 b1 S5
          rw [c2] at h1
          have h1 := h1 _ c1 S5
          rw [if_neg (by decide +kernel)] at h1
          obtain ⟨q6, w6, y6, h6⟩ := h1
          have hCC : cpW (rmW w5) (Pof (al w) u) = cpW (fun i j => (rmI (Vof (al w) u) s1.1 i j).toInt) (Pof (al w) u) := cpW_cg b7
          obtain ⟨f6, fc, lc, d1, d2⟩ := F194 S5 b4 v1 (fun i j hi hj => by rw [b7 i j hi hj]; exact b8 i j hi hj) y6
          rw [hCC] at d2
          have h1 := h6 _ d1 f6.2.2.2
          have S6 : SK w6 := f6.2.2.2
          have e6 : al w6 = al w := by rw [al_FM f6 (by decide), al_FM b2 (by decide), ea]
          have cl : w1 = w6 ∧ r = some (.int (if p4 = 0 then fc / 9 else fc - fc / 9 * 9)) := by
            by_cases c4 : p4 = 0
            · rw [if_pos c4] at h1 ⊢; exact ⟨h1.2, h1.1⟩
            · rw [if_neg c4] at h1 ⊢; exact ⟨h1.2, h1.1⟩
          rw [cl.1] at h2
          obtain ⟨q8, w8, y8, h2⟩ := U313_0 S6 h2
          obtain ⟨f8, e8, alt2⟩ := LOAD3 h3 zz S6 e6 y8
          have S8 : SK w8 := f8.2.2.2
          rcases alt2 with ⟨x0, _⟩ | ⟨u', t1, t2, _, g2, g3, g4, g5, g6, g7, g8, g9⟩
          · rw [a1] at x0; exact absurd x0 i10
          · have eu : u' = u := by have := a2.1; omega
            subst eu
            have h2 := h2 _ g2 S8
            rw [if_neg (by decide +kernel)] at h2
            have ed : dR w8 = s1.1 := by
              have x1 : dA w4 33 = t1.1 := g7.2.2.1
              rw [show dR w8 = t2.1 from g8.1, g6.1, ← x1]
              exact a3.2.2.1
            have h2 := use_p S8 h2 (fun _ _ y => F217v S8 g3 g5 y)
            have era : rmA w8 u' = fun i j => (rmI (Vof (al w) u') s1.1 i j).toInt := by
              funext i j
              unfold rmA
              rw [ed, e8]
              rfl
            obtain ⟨fr, lr, x1, x2⟩ := F313_28 (w0 := w8) g5 (plV g3 g5) (by rw [e8]; exact v3) v1 v1' (by rw [era]; exact b8) rfl _ 0 w8 _ 0 0 _ (FM_refl S8) z32 (Nat.zero_le _) WKS_0 h2
            rw [era] at x1
            rw [x2, cl.2, WKS_uq x1 d2]
        · have hz := hz _ a1 S4
          rw [if_pos rfl] at hz
          have h1 := h1 _ hz.1 (by rw [hz.2]; exact S4)
          rw [if_pos rfl, hz.2] at h1
          rw [h1.2] at h2
          obtain ⟨q6, w6, y6, h2⟩ := U313_0 S4 h2
          obtain ⟨f6, e6, alt2⟩ := LOAD3 h3 zz S4 ea y6
          rcases alt2 with ⟨_, g1⟩ | ⟨u', t1, t2, g1, _⟩
          · have h2 := h2 _ g1 f6.2.2.2
            rw [if_pos rfl] at h2
            rw [h2.1, h1.1]
          · rw [a1] at g1; exact absurd g1.symm i10
end INW
