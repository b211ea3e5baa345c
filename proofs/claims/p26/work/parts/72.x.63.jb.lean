/-! ===== opens ===== -/
section JBA
variable {X : pm_X} {k k2 : Nat} {w0 w w1 w2 w3 w4 w5 wj w' : pm_W} {r r2 q0 q1 q2 : Option Value} {p1 p2 p3 p4 p5 i1 i2 i3 i4 i5 i6 i7 i8 z z1 z2 x y f l f1 f2 l1 l2 : Int32} {i v j m u P t s b Q I J K a T p W N κ : Nat} {C G R R' : Nat → Nat → Int} {e g M : Int} {A B : Nat → Nat} {n : Nat → Int} {wv : Nat → Int32} {s0 s1 s2 t1 t2 : SN}
/-- the pairs looked at before N: the first of the greatest above M, and what it gives -/
def opF (G : Nat → Nat → Int) (P : Nat) (M : Int) : Nat → Int × Int
  | 0 => (-1, M)
  | N + 1 => if N % 9 < P ∧ N % 10 ≠ 0 ∧ (opF G P M N).2 < G (N / 9) (N % 9) then ((N : Int), G (N / 9) (N % 9)) else opF G P M N
theorem opF_y (h : N % 9 < P ∧ N % 10 ≠ 0 ∧ (opF G P M N).2 < G (N / 9) (N % 9)) : opF G P M (N + 1) = ((N : Int), G (N / 9) (N % 9)) := if_pos h
theorem opF_n (h : ¬ (N % 9 < P ∧ N % 10 ≠ 0 ∧ (opF G P M N).2 < G (N / 9) (N % 9))) : opF G P M (N + 1) = opF G P M N := if_neg h
theorem opF_k : ∀ m, (∀ j, j < m → ¬ ((N + j) % 9 < P ∧ (N + j) % 10 ≠ 0)) → opF G P M (N + m) = opF G P M N := by
  intro m
  induction m with
  | zero => intro _; rfl
  | succ m ih =>
    intro h
    rw [← ih (fun j hj => h j (by omega))]
    exact opF_n (N := N + m) (fun q => h m (by omega) ⟨q.1, q.2.1⟩)
theorem opF_ge : ∀ N, M ≤ (opF G P M N).2 ∧ -1 ≤ (opF G P M N).1 ∧ (opF G P M N).1 < N := by
  intro N
  induction N with
  | zero => exact ⟨Int.le_refl _, Int.le_refl _, by show (-1 : Int) < 0; omega⟩
  | succ N ih =>
    by_cases c : N % 9 < P ∧ N % 10 ≠ 0 ∧ (opF G P M N).2 < G (N / 9) (N % 9)
    · rw [opF_y c]
      exact ⟨by show M ≤ G _ _; omega, by show -1 ≤ (N : Int); omega, by show (N : Int) < ((N + 1 : Nat) : Int); omega⟩
    · rw [opF_n c]
      exact ⟨ih.1, ih.2.1, by omega⟩
theorem LKS_cg (h : ∀ i j, i < P → j < P → R i j = R' i j) (hx : LKS R P W A B n s e) : LKS R' P W A B n s e := by
  obtain ⟨x, a1, a2⟩ := hx
  have e1 : capS R (askS A B n s W) P 0 = capS R' (askS A B n s W) P 0 := capS_cg (fun i j hi hj => ⟨h i j hi hj, rfl⟩)
  have e2 : lackS R (askS A B n s W) P = lackS R' (askS A B n s W) P := by
    unfold lackS
    exact suI_cg P (fun i hi => suI_cg P (fun j hj => by rw [h i j hi hj]))
  exact ⟨x, by rw [← e1]; exact a1, by rw [← e2]; exact a2⟩
theorem NR_fm {fs : List (Nat × Nat)} {as : List Nat} (h : NR w M R P W A B n wv) (f : FM fs as w w') (h1 : (68, 8) ∉ fs) (h2 : 78 ∉ as) (hr : ∀ i j, i < P → j < P → R i j = R' i j) : NR w' M R' P W A B n wv := by
  refine ⟨by rw [FM_i f h1]; exact h.1, fun s hs hm => ?_⟩
  obtain ⟨e, e1, e2⟩ := h.2 s hs hm
  exact ⟨e, LKS_cg hr e1, by rw [FM_a f h2]; exact e2⟩
theorem LKw_74 (h : LKw w P W A B n wv) (f : FM [] [74, 75, 76, 80, 81, 82] w w') (hr : ∀ i j, i < P → j < P → rmW w' i j = rmW w i j) : LKw w' P W A B n wv := by
  obtain ⟨g1, g2, g3, g4, g5⟩ := h
  refine ⟨WSH_fm g1 f (by intro p hp; cases hp) (by decide), fun i j hi hj => by rw [hr i j hi hj]; exact g2 i j hi hj, by rw [FM_i f (by simp)]; exact g3, fun s hs => ?_, g5⟩
  rw [← g4 s hs]
  unfold vaW
  rw [FM_a f (by decide)]
theorem F191_l (hL : LKw w0 P W A B n wv) (hR9 : ∀ i j, i < P → j < P → rmW w0 i j ≤ 999) (hN : NR w0 M (rmW w0) P W A B n wv) (hM : M = vlS wv W (bstF (fun s => CANH (rmW w0) P W A B n s 0) (bet wv W) (2 ^ W - 1))) (hG : ∀ a b, a < P → b < P → vlS wv W (bstF (fun s => CANH (fun i j => rmW w0 i j + (if i = a ∧ j = b then 1 else 0)) P W A B n s 0) (bet wv W) (2 ^ W - 1)) = G a b) : ∀ k : Nat,
    (∀ (w : pm_W) (a : Nat) (i1 i2 i3 : Int32) (u4 u5 : Value), FM [] [74, 75, 76, 80, 81, 82] w0 w → (∀ i j, i < 9 → j < 9 → rmW w i j = rmW w0 i j) → i3.toInt = a → a ≤ P → i1.toInt = (opF G P M (9 * a)).1 → i2.toInt = (opF G P M (9 * a)).2 - M → PS X k 191 6 [.ref 68, .int i1, .int i2, .int i3, u4, u5] [] w r w' → FM [] [74, 75, 76, 80, 81, 82] w0 w' ∧ ∃ f : Int32, r = some (.int f) ∧ f.toInt = (opF G P M (9 * P)).1) ∧
    (∀ (w : pm_W) (a b : Nat) (i1 i2 i3 i4 : Int32) (u5 : Value), FM [] [74, 75, 76, 80, 81, 82] w0 w → (∀ i j, i < 9 → j < 9 → rmW w i j = rmW w0 i j) → i3.toInt = a → a < P → i4.toInt = b → b ≤ P → i1.toInt = (opF G P M (9 * a + b)).1 → i2.toInt = (opF G P M (9 * a + b)).2 - M → PS X k 191 20 [.ref 68, .int i1, .int i2, .int i3, .int i4, u5] [] w r w' → FM [] [74, 75, 76, 80, 81, 82] w0 w' ∧ ∃ f : Int32, r = some (.int f) ∧ f.toInt = (opF G P M (9 * P)).1) := by
  obtain ⟨v0, x1, x2, hP9, x4, hW7, x6⟩ := id hL.1
  intro k
  induction k with
  | zero => exact ⟨fun _ _ _ _ _ _ _ _ _ _ _ _ _ h => (PS_0 h).elim, fun _ _ _ _ _ _ _ _ _ _ _ _ _ _ _ _ h => (PS_0 h).elim⟩
  | succ k ih =>
    obtain ⟨ih6, ih20⟩ := ih
    refine ⟨fun w a i1 i2 i3 u4 u5 fm hr h3 ha h1 h2 h => ?_, fun w a b i1 i2 i3 i4 u5 fm hr h3 ha h4 hb h1 h2 h => ?_⟩
    · have hS : SK w := fm.2.2.2
      have h := U191_6 hS h
      rw [FM_r fm (by simp), x1, FM_i fm (by simp)] at h
      by_cases c : gI w0 v0 0 ≤ i3
      · rw [if_pos c] at h
        rw [Int32.le_iff_toInt_le, x2, h3] at c
        have e : a = P := by omega
        rw [e] at h1
        rw [h.2]
        exact ⟨fm, i1, h.1, h1⟩
      · rw [if_neg c] at h
        rw [Int32.le_iff_toInt_le, x2, h3] at c
        exact ih20 w a 0 i1 i2 i3 0 _ fm hr h3 (by omega) z32 (Nat.zero_le _) h1 h2 h
    · have hS : SK w := fm.2.2.2
      have h := U191_20 hS h
      rw [FM_r fm (by simp), x1, FM_i fm (by simp)] at h
      by_cases c : gI w0 v0 0 ≤ i4
      · rw [if_pos c] at h
        rw [Int32.le_iff_toInt_le, x2, h4] at c
        have ek : opF G P M (9 * (a + 1)) = opF G P M (9 * a + b) := by
          rw [show 9 * (a + 1) = 9 * a + b + (9 - b) by omega]
          exact opF_k _ (fun j hj q => by omega)
        exact ih6 w (a + 1) i1 i2 _ _ _ fm hr (by rw [zi_inc (n := 40) (by omega) (by omega), h3]; rfl) (by omega) (by rw [ek]; exact h1) (by rw [ek]; exact h2) h
      · rw [if_neg c] at h
        rw [Int32.le_iff_toInt_le, x2, h4] at c
        have e1 : (i4 + 1).toInt = ((b + 1 : Nat) : Int) := by rw [zi_inc (n := 40) (by omega) (by omega), h4]; rfl
        have n9 : (9 * a + b) % 9 = b := by omega
        have d9 : (9 * a + b) / 9 = a := by omega
        have gge := opF_ge (G := G) (P := P) (M := M) (9 * a + b)
        by_cases c2 : i3 = i4
        · rw [if_pos c2] at h
          have eab : a = b := by rw [c2, h4] at h3; omega
          rw [if_pos (show (0 : Int32) ≤ i2 by rw [Int32.le_iff_toInt_le, z32, h2]; omega)] at h
          have ek : opF G P M (9 * a + (b + 1)) = opF G P M (9 * a + b) := opF_n (N := 9 * a + b) (fun q => q.2.1 (by omega))
          exact ih20 w a (b + 1) i1 i2 i3 _ _ fm hr h3 ha e1 (by omega) (by rw [ek]; exact h1) (by rw [ek]; exact h2) h
        · rw [if_neg c2] at h
          have eab : a ≠ b := fun e => c2 (Int32.toInt_inj.mp (by rw [h3, h4, e]))
          obtain ⟨q1, w2, y1, h5⟩ := h
          have hrP : ∀ i j, i < P → j < P → rmW w i j = rmW w0 i j := fun i j hi hj => hr i j (by omega) (by omega)
          have hLk := LKw_74 hL fm hrP
          have hNk : NR w M (rmW w) P W A B n wv := NR_fm hN fm (by simp) (by decide) (fun i j hi hj => (hrP i j hi hj).symm)
          have eb0 : M = vlS wv W (bstF (fun s => CANH (rmW w) P W A B n s 0) (bet wv W) (2 ^ W - 1)) := by
            rw [bstF_cg (fun s => CANH_cg hrP)]
            exact hM
          obtain ⟨f2, hr2, zc, d1, d2⟩ := F189 hS hLk (fun i j hi hj => by rw [hrP i j hi hj]; exact hR9 i j hi hj) hNk eb0 h3 h4 ha (by omega) y1
          have S2 : SK w2 := f2.2.2.2
          have fm2 := FM_trans fm f2
          have hr2' : ∀ i j, i < 9 → j < 9 → rmW w2 i j = rmW w0 i j := fun i j hi hj => by rw [hr2 i j hi hj, hr i j hi hj]
          rw [bstF_cg (fun s => CANH_cg (R' := fun i j => rmW w0 i j + (if i = a ∧ j = b then 1 else 0)) (fun i j hi hj => by rw [hrP i j hi hj])), hG a b ha (by omega)] at d2
          have h := h5 _ d1 S2
          by_cases c3 : zc ≤ i2
          · rw [if_pos c3] at h
            rw [Int32.le_iff_toInt_le, d2, h2] at c3
            have ek : opF G P M (9 * a + (b + 1)) = opF G P M (9 * a + b) := opF_n (N := 9 * a + b) (fun q => by
              have := q.2.2
              rw [n9, d9] at this
              omega)
            exact ih20 w2 a (b + 1) i1 i2 i3 _ _ fm2 hr2' h3 ha e1 (by omega) (by rw [ek]; exact h1) (by rw [ek]; exact h2) h
          · rw [if_neg c3] at h
            rw [Int32.le_iff_toInt_le, d2, h2] at c3
            obtain ⟨c9, hc9, h⟩ := use_z S2 h (fun _ _ t => F52n S2 h3 h4 (by omega) (by omega) t)
            have ek : opF G P M (9 * a + (b + 1)) = (((9 * a + b : Nat) : Int), G a b) := by
              have q := opF_y (N := 9 * a + b) (G := G) (P := P) (M := M) ⟨by omega, by omega, by rw [n9, d9]; omega⟩
              rw [n9, d9] at q
              exact q
            exact ih20 w2 a (b + 1) c9 zc i3 _ _ fm2 hr2' h3 ha e1 (by omega) (by rw [ek]; exact hc9) (by rw [ek]; exact d2) h
theorem F191 (hS : SK w) (hL : LKw w P W A B n wv) (hR9 : ∀ i j, i < P → j < P → rmW w i j ≤ 999) (hN : NR w M (rmW w) P W A B n wv) (hM : M = vlS wv W (bstF (fun s => CANH (rmW w) P W A B n s 0) (bet wv W) (2 ^ W - 1))) (hG : ∀ a b, a < P → b < P → vlS wv W (bstF (fun s => CANH (fun i j => rmW w i j + (if i = a ∧ j = b then 1 else 0)) P W A B n s 0) (bet wv W) (2 ^ W - 1)) = G a b) (h : PS X k 191 0 [.ref 68, pm_dead, pm_dead, pm_dead, pm_dead, pm_dead] [] w r w') : FM [] [74, 75, 76, 80, 81, 82] w w' ∧ ∃ f : Int32, r = some (.int f) ∧ f.toInt = (opF G P M (9 * P)).1 := by
  cases k with
  | zero => exact (PS_0 h).elim
  | succ k => exact (F191_l hL hR9 hN hM hG k).1 w 0 (-1) 0 0 _ _ (FM_refl hS) (fun _ _ _ _ => rfl) z32 (Nat.zero_le _) m1i (by rw [z32]; show 0 = M - M; omega) (U191_0 hS h)
/-- the reference -/
theorem F309_41 (hV : WSR w0 u P W A B n) (hp : i5.toInt = (610 + 132 * u : Nat)) (hwb : ∀ κ, κ < W → 0 ≤ (wtP (al w0) u κ 3).toInt ∧ (wtP (al w0) u κ 3).toInt ≤ 99) (hG : ∀ a b : Nat, a < P → b < P → vlS (fun κ => wtP (al w0) u κ 3) W (bstF (fun s => CANH (rmX (rmA w0 u) (-1) a b) P W A B n s 0) (bet (fun κ => wtP (al w0) u κ 3) W) (2 ^ W - 1)) = G a b) : ∀ (k N : Nat) (w : pm_W) (i6 i7 i8 : Int32) (u9 : Value), FM [(147, 31), (147, 32)] [160, 161, 162, 163, 164] w0 w → gI w 147 31 = -1 → gI w 147 32 = -1 → i8.toInt = N → N ≤ 9 * P → i6.toInt = (opF G P M N).2 → i7.toInt = (opF G P M N).1 → PS X k 309 41 [.ref 147, .int i1, .int i2, .int i3, .int p4, .int i5, .int i6, .int i7, .int i8, u9] [] w r w' → (gI w' 147 31 = -1 ∧ gI w' 147 32 = -1) ∧ ∃ f : Int32, f.toInt = (opF G P M (9 * P)).1 ∧ r = some (.int (if 0 ≤ f then (if p4 = 0 then f / 9 else f - f / 9 * 9) else -1)) := by
  obtain ⟨u1, hP, hP9, _⟩ := id hV
  have e9 : (9 : Int32).toInt = 9 := nine32
  intro k
  induction k with
  | zero => intro N w i6 i7 i8 u9 _ _ _ _ _ _ _ h; exact (PS_0 h).elim
  | succ k ih =>
    intro N w i6 i7 i8 u9 fm m1 m2 h8 hN h6 h7 h
    have hS : SK w := fm.2.2.2
    have ea : al w = al w0 := al_FM fm (by decide)
    obtain ⟨_, h⟩ := U309_41 hS h
    have eP : aG w 148 i5 = al w0 (610 + 132 * u) := by rw [aG_n hp, ← ea]; rfl
    rw [eP] at h
    have e9P : (9 * al w0 (610 + 132 * u)).toInt = 9 * P := by rw [zi_mul e9 hP (by omega) (by omega)]
    by_cases c : 9 * al w0 (610 + 132 * u) ≤ i8
    · rw [if_pos c] at h
      rw [Int32.le_iff_toInt_le, e9P, h8] at c
      have e : N = 9 * P := by omega
      rw [e] at h7
      by_cases c0 : 0 ≤ i7
      · rw [if_pos c0] at h
        by_cases c4 : p4 = 0
        · rw [if_pos c4] at h
          rw [h.2]
          exact ⟨⟨m1, m2⟩, i7, h7, by rw [if_pos c0, if_pos c4]; exact h.1⟩
        · rw [if_neg c4] at h
          rw [h.2]
          exact ⟨⟨m1, m2⟩, i7, h7, by rw [if_pos c0, if_neg c4]; exact h.1⟩
      · rw [if_neg c0] at h
        rw [h.2]
        exact ⟨⟨m1, m2⟩, i7, h7, by rw [if_neg c0]; exact h.1⟩
    · rw [if_neg c] at h
      rw [Int32.le_iff_toInt_le, e9P, h8] at c
      have e1 : (i8 + 1).toInt = ((N + 1 : Nat) : Int) := by rw [zi_inc (n := 400) (by omega) (by omega), h8]; rfl
      have q10 : (i8 - i8 / 10 * 10).toInt = (N % 10 : Nat) := zi_rem h8 (b := 10) ten32
      have q9 : (i8 - i8 / 9 * 9).toInt = (N % 9 : Nat) := zi_rem h8 (b := 9) e9
      have d9 : (i8 / 9).toInt = (N / 9 : Nat) := zi_div h8 (b := 9) e9
      by_cases c1 : i8 - i8 / 10 * 10 = 0
      · rw [if_pos c1] at h
        rw [c1, z32] at q10
        have ek : opF G P M (N + 1) = opF G P M N := opF_n (fun q => q.2.1 (by omega))
        exact ih (N + 1) w i6 i7 _ _ fm m1 m2 e1 (by omega) (by rw [ek]; exact h6) (by rw [ek]; exact h7) h
      · rw [if_neg c1] at h
        have n10 : N % 10 ≠ 0 := fun e => c1 (Int32.toInt_inj.mp (by rw [q10, e, z32]; rfl))
        obtain ⟨_, h⟩ := h
        by_cases c2 : i8 - i8 / 9 * 9 < al w0 (610 + 132 * u)
        · rw [if_pos c2] at h
          rw [Int32.lt_iff_toInt_lt, q9, hP] at c2
          have hA : N / 9 < P := by omega
          have hB : N % 9 < P := by omega
          obtain ⟨q1, w2, y1, h5⟩ := h
          have hVk := WSR_fm hV fm (by decide) (by decide)
          obtain ⟨f2, n1, n2, zr, d1, d2⟩ := F308 hS hVk hp (by rw [ea]; exact hwb) y1
          rw [ea, rmA_fm fm (by decide) (by decide), d9, q9, hG (N / 9) (N % 9) hA hB] at d2
          have h := h5 _ d1 f2.2.2.2
          have fm2 := FM_trans fm f2
          by_cases c3 : i6 < zr
          · rw [if_pos c3] at h
            rw [Int32.lt_iff_toInt_lt, h6, d2] at c3
            have ek : opF G P M (N + 1) = ((N : Int), G (N / 9) (N % 9)) := opF_y ⟨hB, n10, c3⟩
            exact ih (N + 1) w2 zr i8 _ _ fm2 n1 n2 e1 (by omega) (by rw [ek]; exact d2) (by rw [ek]; exact h8) h
          · rw [if_neg c3] at h
            rw [Int32.lt_iff_toInt_lt, h6, d2] at c3
            have ek : opF G P M (N + 1) = opF G P M N := opF_n (fun q => c3 q.2.2)
            exact ih (N + 1) w2 i6 i7 _ _ fm2 n1 n2 e1 (by omega) (by rw [ek]; exact h6) (by rw [ek]; exact h7) h
        · rw [if_neg c2] at h
          rw [Int32.lt_iff_toInt_lt, q9, hP] at c2
          have ek : opF G P M (N + 1) = opF G P M N := opF_n (fun q => c2 (by omega))
          exact ih (N + 1) w i6 i7 _ _ fm m1 m2 e1 (by omega) (by rw [ek]; exact h6) (by rw [ek]; exact h7) h
/-- opens -/
theorem RC_34 (h3 : RL3 w) (hmf : gI w 147 31 = -1) (hmt : gI w 147 32 = -1) (h1 : PS X k 190 0 [.ref 0, .int p1, .int p2, .int p3, .int p4, pm_dead] [] w r w1) (h2 : PS X k2 309 0 [.ref 147, .int p1, .int p2, .int p3, .int p4, pm_dead, pm_dead, pm_dead, pm_dead, pm_dead] [] w1 r2 w2) : r2 = r ∧ gI w2 147 31 = -1 ∧ gI w2 147 32 = -1 := by
  have hS := h3.1.1
  cases k with
  | zero => exact (PS_0 h1).elim
  | succ k =>
    cases k2 with
    | zero => exact (PS_0 h2).elim
    | succ k2 =>
      obtain ⟨q1, w3, z, h1⟩ := U190_0 hS h1
      cases k with
      | zero => exact (PS_0 z).elim
      | succ k =>
        obtain ⟨q2, w4, zz, hz⟩ := U173_0 hS z
        obtain ⟨f1, alt⟩ := F98 h3 zz
        have S4 : SK w4 := f1.2.2.2
        have ea := FM_al f1
        rcases alt with ⟨u, s1, a1, a2, a3⟩ | ⟨a1, a2⟩
        · have hz := hz _ a1 S4
          rw [if_neg (by decide +kernel)] at hz
          obtain ⟨q4, w5, y5, h5⟩ := hz
          have hu := a2.2.1
          have bd : ∀ q, 0 ≤ (s1.1 q).toInt ∧ (s1.1 q).toInt ≤ 99 := (LDR_2 h3.2 a2 a2).2.2.2.2.2.1.1.1
          obtain ⟨_, _, _, _, _, _, b7, b8⟩ := LOOK3 h3 f1 hu a3 bd y5
          have hL := LKC h3 f1 a2 a3 y5
          obtain ⟨b1, u', s1', b2, b3, b4, b5, b6, f5, b9, b10, b12, b11⟩ := LK5_c h3 zz a1 y5
          have eu : u' = u := by have := a2.1; omega
          subst eu
          have S5 : SK w5 := f5.2.2.2
          obtain ⟨c1, c2⟩ := h5 b1 S5
          rw [c2] at h1
          have h1 := h1 _ c1 S5
          rw [if_neg (by decide +kernel)] at h1
          obtain ⟨q6, w7, y7, h7⟩ := h1
          obtain ⟨o1, f7, hN⟩ := F188 S5 hL y7
          have S7 := f7.2.2.2
          have er7 : rmW w7 = rmW w5 := rmW_g f7 (by decide)
          have hL7 := LKw_g hL f7 (by decide) (by decide)
          obtain ⟨q8, w9, y9, h9⟩ := h7 o1 S7
          rw [← er7] at hN
          obtain ⟨f9, fc, d1, d2⟩ := F191 S7 hL7 (fun i j hi hj => by rw [er7, b7 i j hi hj]; have := b8 i j hi hj; omega) hN rfl (fun a b _ _ => rfl) y9
          have S9 := f9.2.2.2
          have h9 := h9 _ d1 S9
          have cl : w1 = w9 ∧ r = some (.int (if 0 ≤ fc then (if p4 = 0 then fc / 9 else fc - fc / 9 * 9) else -1)) := by
            have gg := (opF_ge (G := fun a b => vlS (fun κ => wtP (al w) u' κ 3) (Wof (al w) u') (bstF (fun s => CANH (fun i j => rmW w7 i j + (if i = a ∧ j = b then 1 else 0)) (Pof (al w) u') (Wof (al w) u') (wAf (al w) u') (wBf (al w) u') (wNf (al w) u') s 0) (bet (fun κ => wtP (al w) u' κ 3) (Wof (al w) u')) (2 ^ (Wof (al w) u') - 1))) (P := Pof (al w) u') (M := vlS (fun κ => wtP (al w) u' κ 3) (Wof (al w) u') (bstF (fun s => CANH (rmW w7) (Pof (al w) u') (Wof (al w) u') (wAf (al w) u') (wBf (al w) u') (wNf (al w) u') s 0) (bet (fun κ => wtP (al w) u' κ 3) (Wof (al w) u')) (2 ^ (Wof (al w) u') - 1))) (9 * Pof (al w) u')).2.1
            by_cases c0 : fc = -1
            · rw [if_pos c0] at h9
              rw [if_neg (by rw [c0]; decide +kernel)]
              exact ⟨h9.2, h9.1⟩
            · rw [if_neg c0] at h9
              have c1 : (0 : Int32) ≤ fc := by
                rw [Int32.le_iff_toInt_le, z32]
                have : fc.toInt ≠ -1 := fun q => c0 (Int32.toInt_inj.mp (by rw [q]; exact m1i.symm))
                omega
              rw [if_pos c1]
              by_cases c4 : p4 = 0
              · rw [if_pos c4] at h9 ⊢; exact ⟨h9.2, h9.1⟩
              · rw [if_neg c4] at h9 ⊢; exact ⟨h9.2, h9.1⟩
          rw [cl.1] at h2
          have e9 : al w9 = al w := by rw [al_FM f9 (by decide), al_FM f7 (by decide), al_FM f5 (by decide), ea]
          obtain ⟨q10, w6, y6, h2⟩ := U309_0 S9 h2
          obtain ⟨f6, e6, alt2⟩ := LOAD3 h3 zz S9 e9 y6
          have S6 : SK w6 := f6.2.2.2
          have hm6 : gI w6 147 31 = gI w 147 31 := by rw [FM_i f6 (by simp), FM_i f9 (by simp), FM_i f7 (by simp), FM_i f5 (by simp), FM_i f1 (by simp)]
          have hm6' : gI w6 147 32 = gI w 147 32 := by rw [FM_i f6 (by simp), FM_i f9 (by simp), FM_i f7 (by simp), FM_i f5 (by simp), FM_i f1 (by simp)]
          rcases alt2 with ⟨x0, _⟩ | ⟨u2, t1, t2, _, gg2, hLD⟩
          · rw [a1] at x0; exact absurd x0 i10
          · have eu : u2 = u' := by have := hLD.1; omega
            subst eu
            have hK := b11 w6 t1 t2 hLD e6 hm6
            have hc1 := hLD.1
            have hp := plV hc1 b4
            have h2 := h2 _ gg2 S6
            rw [if_neg (by decide +kernel)] at h2
            have h2 := use_p S6 h2 (fun _ _ y => F217v S6 hc1 b4 y)
            obtain ⟨x9, w8, f8, n1, h2⟩ := F287v (sl := 0) S6 hK.2.1 hp (by rw [e6]; exact hL.2.2.2.2) z32 ⟨by omega, by omega⟩ h2
            have S8 := f8.2.2.2
            have e8 : al w8 = al w := by rw [al_FM f8 (by decide), e6]
            rw [e6, hm6, hm6', hmf, hmt, m1i] at n1
            rw [bstF_cg (fun s => (can_2 hK s).symm), ← er7] at n1
            have rr := F309_41 (G := fun a b => vlS (fun κ => wtP (al w) u2 κ 3) (Wof (al w) u2) (bstF (fun s => CANH (fun i j => rmW w7 i j + (if i = a ∧ j = b then 1 else 0)) (Pof (al w) u2) (Wof (al w) u2) (wAf (al w) u2) (wBf (al w) u2) (wNf (al w) u2) s 0) (bet (fun κ => wtP (al w) u2 κ 3) (Wof (al w) u2)) (2 ^ (Wof (al w) u2) - 1))) (M := vlS (fun κ => wtP (al w) u2 κ 3) (Wof (al w) u2) (bstF (fun s => CANH (rmW w7) (Pof (al w) u2) (Wof (al w) u2) (wAf (al w) u2) (wBf (al w) u2) (wNf (al w) u2) s 0) (bet (fun κ => wtP (al w) u2 κ 3) (Wof (al w) u2)) (2 ^ (Wof (al w) u2) - 1))) (WSR_fm hK.2.1 f8 (by decide) (by decide)) hp (by rw [e8]; exact hL.2.2.2.2) (fun a b ha hb => by
              rw [e8, rmA_fm f8 (by decide) (by decide)]
              refine congrArg (vlS (fun κ => wtP (al w) u2 κ 3) (Wof (al w) u2)) (bstF_cg (fun s => ?_) _)
              refine CANH_cg (fun i j hi hj => ?_)
              rw [er7, hK.2.2.2.1 i j hi hj]
              unfold rmX
              rw [if_neg (by omega)]
              by_cases c : i = a ∧ j = b
              · rw [if_pos c, if_pos (by omega)]
              · rw [if_neg c, if_neg (by omega)]) _ 0 w8 _ (-1) 0 _ (FM_refl S8) (by rw [FM_i f8 (by simp), hm6]; exact hmf) (by rw [FM_i f8 (by simp), hm6']; exact hmt) z32 (Nat.zero_le _) n1 m1i h2
            obtain ⟨rm, fr, x1, x2⟩ := rr
            refine ⟨?_, rm⟩
            rw [x2, cl.2, show fr = fc from Int32.toInt_inj.mp (by rw [x1, d2])]
        · have hz := hz _ a1 S4
          rw [if_pos rfl] at hz
          have h1 := h1 _ hz.1 (by rw [hz.2]; exact S4)
          rw [if_pos rfl, hz.2] at h1
          rw [h1.2] at h2
          obtain ⟨q6, w6, y6, h2⟩ := U309_0 S4 h2
          obtain ⟨f6, e6, alt2⟩ := LOAD3 h3 zz S4 ea y6
          rcases alt2 with ⟨_, g1⟩ | ⟨u', t1, t2, g1, _⟩
          · have h2 := h2 _ g1 f6.2.2.2
            rw [if_pos rfl] at h2
            rw [h2.1, h1.1, h2.2, FM_i f6 (by simp), FM_i f6 (by simp), FM_i f1 (by simp), FM_i f1 (by simp)]
            exact ⟨rfl, hmf, hmt⟩
          · rw [a1] at g1; exact absurd g1.symm i10
end JBA
