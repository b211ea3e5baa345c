/-! ===== most, shilling, worth, asked on both sides ===== -/
section IVM
variable {X : pm_X} {k k2 : Nat} {w0 w w1 w2 w3 w4 w5 w6 wj w' : pm_W} {r r2 q0 q1 q2 : Option Value} {p1 p2 p3 p4 p5 i0 i1 i2 i3 i4 i5 i6 i7 i8 z z1 z2 x y : Int32} {i v j m u P t s b Q I J K T p W M N κ : Nat} {R R' C ask c : Nat → Nat → Int} {e g d sl : Int} {A B : Nat → Nat} {n o : Nat → Int} {S : Nat → Bool} {a : Nat → Int32} {wv : Nat → Int32} {s1 t1 t2 : SN}
/-- the class's wishes: the village, the rooms, the sets' worth -/
def LKw (w : pm_W) (P W : Nat) (A B : Nat → Nat) (n : Nat → Int) (wv : Nat → Int32) : Prop := WSH w P W A B n ∧ (∀ i j, i < P → j < P → 0 ≤ rmW w i j ∧ rmW w i j ≤ 1000) ∧ (gI w 68 7).toInt = ((2 ^ W : Nat) : Int) ∧ (∀ s, s < 2 ^ W → vaW w s = vlS wv W s) ∧ ∀ κ, κ < W → 0 ≤ (wv κ).toInt ∧ (wv κ).toInt ≤ 99
theorem LKw_fm (h : LKw w P W A B n wv) (f : FM [] [75, 76, 80, 81, 82] w w') : LKw w' P W A B n wv := by
  obtain ⟨h1, h2, h3, h4, h5⟩ := h
  refine ⟨WSH_fm h1 f (by intro p hp; cases hp) (by decide), fun i j hi hj => ?_, by rw [FM_i f (by simp)]; exact h3, fun s hs => ?_, h5⟩
  · rw [show rmW w' = rmW w from by funext i j; unfold rmW; rw [FM_a f (by decide)]]
    exact h2 i j hi hj
  · rw [← h4 s hs]
    unfold vaW
    rw [FM_a f (by decide)]
theorem rmW_fm (f : FM [] [75, 76, 80, 81, 82] w w') : rmW w' = rmW w := by funext i j; unfold rmW; rw [FM_a f (by decide)]
theorem LKC (h3 : RL3 w) (f1 : FM [(33, 0), (33, 1), (33, 2)] [39, 40, 41] w w3) (a2 : LDR (al w) p1 p2 p3 a u s1) (a3 : CSt w3 33 (5 + 5 * u) (Pof (al w) u) s1.1 s1.2.1 s1.2.2.1 s1.2.2.2) (y : PS X k2 159 0 [.ref 68, .ref 33, pm_dead, pm_dead] [] w3 r w5) : LKw w5 (Pof (al w) u) (Wof (al w) u) (wAf (al w) u) (wBf (al w) u) (wNf (al w) u) (fun κ => wtP (al w) u κ 3) := by
  have hu := a2.2.1
  obtain ⟨x1, x2, x3⟩ := VA_w h3.2 hu
  have bd : ∀ q, 0 ≤ (s1.1 q).toInt ∧ (s1.1 q).toInt ≤ 99 := (LDR_2 h3.2 a2 a2).2.2.2.2.2.1.1.1
  obtain ⟨_, c2, c3, c4, c5, c6, c7, c8⟩ := LOOK3 h3 f1 hu a3 bd y
  refine ⟨LOOK_V h3 f1 hu c2 c3 c4, fun i j hi hj => by rw [c7 i j hi hj]; have := c8 i j hi hj; omega, c5, c6, fun κ hκ => ?_⟩
  have q := x3 κ hκ
  exact ⟨q.2.2.2.2.2.2.2.1, q.2.2.2.2.2.2.2.2⟩
theorem F178 (hS : SK w) (hL : LKw w P W A B n wv) (h1 : p1.toInt = sl) (hsl : 0 ≤ sl ∧ sl ≤ 99) (h : PS X k 178 0 [.ref 68, .int p1] [] w r w') : FM [] [75, 76, 80, 81, 82] w w' ∧ ∃ z : Int32, r = some (.int z) ∧ z.toInt = vlS wv W (bstF (fun s => CANH (rmW w) P W A B n s sl) (bet wv W) (2 ^ W - 1)) := by
  obtain ⟨g1, g2, g3, g4, g5⟩ := id hL
  cases k with
  | zero => exact (PS_0 h).elim
  | succ k =>
    obtain ⟨q1, w2, y, h⟩ := U178_0 hS h
    obtain ⟨f2, z, a1, a2⟩ := F174 hS g1 g2 g3 g4 h1 hsl y
    obtain ⟨_, h⟩ := h _ a1 f2.2.2.2
    rw [h.2]
    refine ⟨f2, _, h.1, ?_⟩
    rw [aG_n a2]
    have hb := bstF_le (can := fun s => CANH (rmW w) P W A B n s sl) (bt := bet wv W) (2 ^ W - 1)
    have p1' : 1 ≤ 2 ^ W := Nat.one_le_two_pow
    exact (LKw_fm hL f2).2.2.2.1 _ (by omega)
theorem bst_lt (hW : W ≤ 7) {can : Nat → Prop} {bt : Nat → Nat → Prop} : bstF can bt (2 ^ W - 1) < 128 := by
  have hb := bstF_le (can := can) (bt := bt) (2 ^ W - 1)
  have p128 : 2 ^ W ≤ 128 := Nat.le_trans (Nat.pow_le_pow_right (by decide) hW) (by decide)
  have p1' : 1 ≤ 2 ^ W := Nat.one_le_two_pow
  omega
/-- the reference: the best set, then its worth -/
theorem F287v {C : Int32 → pm_W → Prop} (hS : SK w) (hV : WSR w u P W A B n) (hp : p1.toInt = (610 + 132 * u : Nat)) (hwb : ∀ κ, κ < W → 0 ≤ (wtP (al w) u κ 3).toInt ∧ (wtP (al w) u κ 3).toInt ≤ 99) (h2 : p2.toInt = sl) (hsl : 0 ≤ sl ∧ sl ≤ 99) (h : ∃ (r7 : Option Value) (w8 : pm_W), PS X k 287 0 [.ref 147, .int p1, .int p2, .int p3, pm_dead, pm_dead, pm_dead] [] w r7 w8 ∧ (∀ x9 : Int32, r7 = some (.int x9) → SK w8 → (∃ (r10 : Option Value) (w11 : pm_W), PS X k 288 0 [.ref 147, .int p1, .int x9, pm_dead, pm_dead] [] w8 r10 w11 ∧ (∀ x12 : Int32, r10 = some (.int x12) → SK w11 → C x12 w11)))) : ∃ (x : Int32) (w8 : pm_W), FM [] [160, 161, 162, 163, 164] w w8 ∧ x.toInt = vlS (fun κ => wtP (al w) u κ 3) W (bstF (fun s => CANH (rmX (rmA w u) p3.toInt (gI w 147 31).toInt (gI w 147 32).toInt) P W A B n s sl) (bet (fun κ => wtP (al w) u κ 3) W) (2 ^ W - 1)) ∧ C x w8 := by
  obtain ⟨q1, w8, y, h⟩ := h
  obtain ⟨f8, z, a1, a2⟩ := F287 hS hV hp hwb h2 hsl y
  have S8 := f8.2.2.2
  have h := h _ a1 S8
  have e8 : al w8 = al w := al_FM f8 (by decide)
  obtain ⟨x, hx, h⟩ := use_z S8 h (fun _ _ y => F288 S8 (WSR_fm hV f8 (by decide) (by decide)) hp (by rw [e8]; exact hwb) a2 (bst_lt hV.2.2.2.2.1) y)
  rw [e8] at hx
  exact ⟨x, w8, f8, hx, h⟩
theorem dropP (hS : SK w) (hg : gR w 68 0 = v) (hv : v < 60) (hP : (gI w v 0).toInt = P) (hP9 : P ≤ 9) (h1 : p1.toInt = p) (hp : p < P) (h : PS X k 180 0 [.ref 68, .int p1, pm_dead] [] w r w') : r = none ∧ FM [] [74] w w' ∧ ∀ i j, i < P → j < P → rmW w' i j = if i = p ∨ j = p then 0 else rmW w i j := by
  have lp : ∀ (k t : Nat) (wk : pm_W) (i2 : Int32), FM [] [74] w wk → i2.toInt = t → t ≤ P → (∀ i j, i < P → j < P → rmW wk i j = if (i = p ∧ j < t) ∨ (j = p ∧ i < t) then 0 else rmW w i j) → PS X k 180 2 [.ref 68, .int p1, .int i2] [] wk r w' → r = none ∧ FM [] [74] w w' ∧ ∀ i j, i < P → j < P → rmW w' i j = if i = p ∨ j = p then 0 else rmW w i j := by
    intro k
    induction k with
    | zero => intro t wk i2 _ _ _ _ h; exact (PS_0 h).elim
    | succ k ih =>
      intro t wk i2 fm h2 ht hf h
      have S1 : SK wk := fm.2.2.2
      have h := U180_2 S1 h
      rw [FM_r fm (by simp), hg, FM_i fm (by simp)] at h
      by_cases c : gI w v 0 ≤ i2
      · rw [if_pos c] at h
        rw [Int32.le_iff_toInt_le, hP, h2] at c
        rw [h.2]
        refine ⟨h.1, fm, fun i j hi hj => ?_⟩
        rw [hf i j hi hj]
        by_cases q : i = p ∨ j = p
        · rw [if_pos q, if_pos (by omega)]
        · rw [if_neg q, if_neg (by omega)]
      · rw [if_neg c] at h
        rw [Int32.le_iff_toInt_le, hP, h2] at c
        obtain ⟨k1, hk1, h⟩ := use_z S1 h (fun _ _ q => F52n S1 h1 h2 (by omega) (by omega) q)
        obtain ⟨_, h⟩ := h
        have h := h _ rfl
        have S2 : SK (aS wk 74 k1 0) := SK_aS S1
        obtain ⟨k2, hk2, h⟩ := use_z S2 h (fun _ _ q => F52n S2 h2 h1 (by omega) (by omega) q)
        obtain ⟨_, h⟩ := h
        have h := h _ rfl
        refine ih (t + 1) _ _ (FM_trans fm (FM_trans (FM_aS S1 (by decide)) (FM_aS S2 (by decide)))) (by rw [zi_inc (n := 40) (by omega) (by omega), h2]; rfl) (by omega) (fun i j hi hj => ?_) h
        rw [rmW_s S2 (show t < 9 by omega) (show p < 9 by omega) hk2 i j (by omega) (by omega), rmW_s S1 (show p < 9 by omega) (show t < 9 by omega) hk1 i j (by omega) (by omega), hf i j hi hj, z32]
        by_cases q1 : i = t ∧ j = p
        · rw [if_pos q1, if_pos (by omega)]
        · rw [if_neg q1]
          by_cases q2 : i = p ∧ j = t
          · rw [if_pos q2, if_pos (by omega)]
          · rw [if_neg q2]
            by_cases q3 : (i = p ∧ j < t) ∨ (j = p ∧ i < t)
            · rw [if_pos q3, if_pos (by omega)]
            · rw [if_neg q3, if_neg (by omega)]
  cases k with
  | zero => exact (PS_0 h).elim
  | succ k => exact lp k 0 w 0 (FM_refl hS) z32 (Nat.zero_le _) (fun i j _ _ => by rw [if_neg (by omega)]) (U180_0 hS h)
/-- not loaded, on both sides -/
theorem no_173 (h3 : RL3 w) (zz : PS X k 98 0 [.ref 0, .int p1, .int p2, .int p3, pm_dead, pm_dead, pm_dead] [] w q1 w4) (a1 : q1 = some (.int 0)) (y6 : PS X k2 246 0 [.ref 147, .int p1, .int p2, .int p3] [] w4 q2 w6) : q2 = some (.int 0) ∧ SK w6 := by
  obtain ⟨f1, _⟩ := F98 h3 zz
  obtain ⟨f6, e6, alt2⟩ := LOAD3 h3 zz f1.2.2.2 (FM_al f1) y6
  rcases alt2 with ⟨_, g1⟩ | ⟨u', t1, t2, g1, _⟩
  · exact ⟨g1, f6.2.2.2⟩
  · rw [a1] at g1; exact absurd g1.symm i10
/-- most -/
theorem RC_21 (h3 : RL3 w) (hmf : gI w 147 31 = -1) (h1 : PS X k 172 0 [.ref 0, .int p1, .int p2, .int p3, .int p4, .int p5, pm_dead] [] w r w1) (h2 : PS X k2 286 0 [.ref 147, .int p1, .int p2, .int p3, .int p4, .int p5, pm_dead, pm_dead] [] w1 r2 w2) : r2 = r := by
  have hS := h3.1.1
  cases k with
  | zero => exact (PS_0 h1).elim
  | succ k =>
    cases k2 with
    | zero => exact (PS_0 h2).elim
    | succ k2 =>
      obtain ⟨q1, w3, z, h1⟩ := U172_0 hS h1
      cases k with
      | zero => exact (PS_0 z).elim
      | succ k =>
        obtain ⟨q2, w4, zz, hz⟩ := U173_0 hS z
        obtain ⟨f1, alt⟩ := F98 h3 zz
        have S4 : SK w4 := f1.2.2.2
        have ea := FM_al f1
        rcases alt with ⟨u, s1, a1, a2, a3⟩ | ⟨a1, a2⟩
        · have hz := hz _ a1 S4
          rw [if_neg (by decide +kernel)] at hz
          obtain ⟨q4, w5, y5, h5⟩ := hz
          have hL := LKC h3 f1 a2 a3 y5
          obtain ⟨b1, u', s1', b2, b3, b4, b5, b6, b7, b8, b9, b10, b11⟩ := LK5_c h3 zz a1 y5
          have eu : u' = u := by have := a2.1; omega
          subst eu
          have S5 : SK w5 := b7.2.2.2
          obtain ⟨d1, d2⟩ := h5 b1 S5
          rw [d2] at h1
          have h1 := h1 _ d1 S5
          rw [if_neg (by decide +kernel), b8, b10] at h1
          have e5 : al w5 = al w := by rw [al_FM b7 (by decide), ea]
          have hm5 : gI w5 147 31 = gI w 147 31 := by rw [FM_i b7 (by simp), FM_i f1 (by simp)]
          obtain ⟨_, _, _, _, hv4⟩ := VA_v h3.2 b3
          obtain ⟨can, hcan⟩ : ∃ can : Int → Nat → Prop, can = fun sl s => CANH (rmW w5) (Pof (al w) u') (Wof (al w) u') (wAf (al w) u') (wBf (al w) u') (wNf (al w) u') s sl := ⟨_, rfl⟩
          -- the answer: a set, or its worth
          have cls : ∀ slv : Int32, 0 ≤ slv.toInt → slv.toInt ≤ 99 → (∃ (r4 : Option Value) (w7 : pm_W), PS X (k + 1) 174 0 [.ref 68, .int slv, pm_dead, pm_dead] [] w5 r4 w7 ∧ (∀ x6 : Int32, r4 = some (.int x6) → SK w7 → (if p5 = 0 then (r = some (.int x6) ∧ w1 = w7) else (aI w7 77 x6 ∧ (r = some (.int (aG w7 77 x6)) ∧ w1 = w7))))) → FM [] [75, 76, 80, 81, 82] w5 w1 ∧ ∃ zc : Int32, r = some (.int zc) ∧ zc.toInt = if p5 = 0 then ((bstF (can slv.toInt) (bet (fun κ => wtP (al w) u' κ 3) (Wof (al w) u')) (2 ^ Wof (al w) u' - 1) : Nat) : Int) else vlS (fun κ => wtP (al w) u' κ 3) (Wof (al w) u') (bstF (can slv.toInt) (bet (fun κ => wtP (al w) u' κ 3) (Wof (al w) u')) (2 ^ Wof (al w) u' - 1)) := by
            intro slv s0 s9 h
            obtain ⟨q7, w7, y7, h⟩ := h
            obtain ⟨f7, zc, m1, m2⟩ := F174 S5 hL.1 hL.2.1 hL.2.2.1 hL.2.2.2.1 rfl ⟨s0, s9⟩ y7
            have h := h _ m1 f7.2.2.2
            rw [hcan]
            by_cases q : p5 = 0
            · rw [if_pos q] at h ⊢
              rw [h.2]
              exact ⟨f7, zc, h.1, m2⟩
            · rw [if_neg q] at h ⊢
              rw [h.2.2]
              refine ⟨f7, _, h.2.1, ?_⟩
              rw [aG_n m2]
              have hb := bstF_le (can := fun s => CANH (rmW w5) (Pof (al w) u') (Wof (al w) u') (wAf (al w) u') (wBf (al w) u') (wNf (al w) u') s slv.toInt) (bt := bet (fun κ => wtP (al w) u' κ 3) (Wof (al w) u')) (2 ^ Wof (al w) u' - 1)
              have p1' : 1 ≤ 2 ^ Wof (al w) u' := Nat.one_le_two_pow
              exact (LKw_fm hL f7).2.2.2.1 _ (by omega)
          have ref : ∀ slv : Int32, slv = (if p4 = 0 then 0 else al w (612 + 132 * u')) → FM [] [75, 76, 80, 81, 82] w5 w1 → ∃ zr : Int32, r2 = some (.int zr) ∧ zr.toInt = if p5 = 0 then ((bstF (can slv.toInt) (bet (fun κ => wtP (al w) u' κ 3) (Wof (al w) u')) (2 ^ Wof (al w) u' - 1) : Nat) : Int) else vlS (fun κ => wtP (al w) u' κ 3) (Wof (al w) u') (bstF (can slv.toInt) (bet (fun κ => wtP (al w) u' κ 3) (Wof (al w) u')) (2 ^ Wof (al w) u' - 1)) := by
            intro slv hslv f9
            have S9 := f9.2.2.2
            have e9 : al w1 = al w := by rw [al_FM f9 (by decide), e5]
            obtain ⟨q6, w6, y6, h2⟩ := U286_0 S9 h2
            obtain ⟨f6, e6, alt2⟩ := LOAD3 h3 zz S9 e9 y6
            have S6 : SK w6 := f6.2.2.2
            have hm6 : gI w6 147 31 = gI w 147 31 := by rw [FM_i f6 (by simp), FM_i f9 (by simp), hm5]
            rcases alt2 with ⟨gg1, _⟩ | ⟨u2, t1, t2, _, gg2, hLD⟩
            · rw [a1] at gg1; exact absurd gg1 i10
            · have eu : u2 = u' := by have := hLD.1; omega
              subst eu
              have hK := b11 w6 t1 t2 hLD e6 hm6
              have hc1 := hLD.1
              have hc3 := hLD.2.2.1
              have h2 := h2 _ gg2 S6
              rw [if_neg (by decide +kernel)] at h2
              have h2 := use_p S6 h2 (fun _ _ y => F217v S6 hc1 hc3 y)
              have fin : ∀ sv : Int32, sv = slv → (∃ (r7 : Option Value) (w8 : pm_W), PS X k2 287 0 [.ref 147, .int (610 + 132 * p1), .int sv, .int (-1), pm_dead, pm_dead, pm_dead] [] w6 r7 w8 ∧ (∀ x9 : Int32, r7 = some (.int x9) → SK w8 → (if p5 = 0 then (r2 = some (.int x9) ∧ w2 = w8) else (∃ (r10 : Option Value) (w11 : pm_W), PS X k2 288 0 [.ref 147, .int (610 + 132 * p1), .int x9, pm_dead, pm_dead] [] w8 r10 w11 ∧ (∀ x12 : Int32, r10 = some (.int x12) → SK w11 → (r2 = some (.int x12) ∧ w2 = w11)))))) → ∃ zr : Int32, r2 = some (.int zr) ∧ zr.toInt = if p5 = 0 then ((bstF (can slv.toInt) (bet (fun κ => wtP (al w) u2 κ 3) (Wof (al w) u2)) (2 ^ Wof (al w) u2 - 1) : Nat) : Int) else vlS (fun κ => wtP (al w) u2 κ 3) (Wof (al w) u2) (bstF (can slv.toInt) (bet (fun κ => wtP (al w) u2 κ 3) (Wof (al w) u2)) (2 ^ Wof (al w) u2 - 1)) := by
                intro sv hsv h
                have hsb : 0 ≤ sv.toInt ∧ sv.toInt ≤ 99 := by
                  rw [hsv, hslv]
                  by_cases q : p4 = 0
                  · rw [if_pos q, z32]; omega
                  · rw [if_neg q]; omega
                obtain ⟨q8, w8, y8, h⟩ := h
                obtain ⟨f8, zr, m1, m2⟩ := F287 S6 hK.2.1 (plV hc1 hc3) (by rw [e6]; exact hL.2.2.2.2) rfl hsb y8
                rw [e6, hm6, hmf, m1i, hsv] at m2
                have ec : ∀ s, CANH (rmX (rmA w6 u2) (-1) (-1) (gI w6 147 32).toInt) (Pof (al w) u2) (Wof (al w) u2) (wAf (al w) u2) (wBf (al w) u2) (wNf (al w) u2) s slv.toInt ↔ can slv.toInt s := fun s => by rw [hcan]; exact (can_2 hK s).symm
                rw [bstF_cg ec] at m2
                have S8 := f8.2.2.2
                have h := h _ m1 S8
                by_cases q : p5 = 0
                · rw [if_pos q] at h ⊢
                  exact ⟨zr, h.1, m2⟩
                · rw [if_neg q] at h ⊢
                  have e8 : al w8 = al w := by rw [al_FM f8 (by decide), e6]
                  obtain ⟨x, hx, h⟩ := use_z S8 h (fun _ _ y => F288 S8 (WSR_fm hK.2.1 f8 (by decide) (by decide)) (plV hc1 hc3) (by rw [e8]; exact hL.2.2.2.2) m2 (bst_lt hK.2.2.2.2.2.2.2.2.2.2) y)
                  rw [e8] at hx
                  exact ⟨x, h.1, hx⟩
              by_cases q : p4 = 0
              · rw [if_pos q] at h2 hslv
                exact fin 0 hslv.symm h2
              · rw [if_neg q] at h2 hslv
                have es : aG w6 148 (610 + 132 * p1 + 2) = al w (612 + 132 * u2) := by
                  rw [aG_n (m := 612 + 132 * u2) (by rw [zi_add (plV hc1 hc3) two32 (by omega) (by omega)]; omega)]
                  show al w6 _ = _
                  rw [e6]
                exact fin _ (by rw [es]; exact hslv.symm) h2.2
          have both : ∀ slv : Int32, slv = (if p4 = 0 then 0 else al w (612 + 132 * u')) → (∃ (r4 : Option Value) (w7 : pm_W), PS X (k + 1) 174 0 [.ref 68, .int slv, pm_dead, pm_dead] [] w5 r4 w7 ∧ (∀ x6 : Int32, r4 = some (.int x6) → SK w7 → (if p5 = 0 then (r = some (.int x6) ∧ w1 = w7) else (aI w7 77 x6 ∧ (r = some (.int (aG w7 77 x6)) ∧ w1 = w7))))) → r2 = r := by
            intro slv hslv h
            have hsb : 0 ≤ slv.toInt ∧ slv.toInt ≤ 99 := by
              rw [hslv]
              by_cases q : p4 = 0
              · rw [if_pos q, z32]; omega
              · rw [if_neg q]; omega
            obtain ⟨f9, zc, m1, m2⟩ := cls slv hsb.1 hsb.2 h
            obtain ⟨zr, n1, n2⟩ := ref slv hslv f9
            rw [n1, m1, Int32.toInt_inj.mp (n2.trans m2.symm)]
          by_cases q : p4 = 0
          · rw [if_pos q] at h1
            exact both 0 (by rw [if_pos q]) h1
          · rw [if_neg q] at h1
            exact both _ (by rw [if_neg q]) h1
        · have hz := hz _ a1 S4
          rw [if_pos rfl] at hz
          have h1 := h1 _ hz.1 (by rw [hz.2]; exact S4)
          rw [if_pos rfl, hz.2] at h1
          rw [h1.2] at h2
          obtain ⟨q6, w6, y6, h2⟩ := U286_0 S4 h2
          obtain ⟨g1, S6⟩ := no_173 h3 zz a1 y6
          have h2 := h2 _ g1 S6
          rw [if_pos rfl] at h2
          rw [h2.1, h1.1]
end IVM
