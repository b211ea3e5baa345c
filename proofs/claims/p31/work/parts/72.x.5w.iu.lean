/-! ===== had, most, shilling, asked on both sides ===== -/
section IUH
variable {X : pm_X} {k k2 : Nat} {w0 w w1 w2 w3 w4 w5 w6 wj w' : pm_W} {r r2 q0 q1 q2 : Option Value} {p1 p2 p3 p4 p5 i0 i1 i2 i3 i4 i5 i6 i7 i8 z z1 z2 x y : Int32} {i v j m u P t s b Q I J K T p W M N κ : Nat} {R R' C ask c : Nat → Nat → Int} {e g d sl : Int} {A B : Nat → Nat} {n o : Nat → Int} {S : Nat → Bool} {a : Nat → Int32} {wv : Nat → Int32} {s1 t1 t2 : SN}
theorem shr_0 (hx : x.toInt = m) (hy : y.toInt = W) (hW : W ≤ 7) : (x >>> (y &&& 31)) = 0 ↔ m < 2 ^ W := by
  have ey := i32_of hy (by omega)
  have t : (List.range 32).all (fun b => ((Int32.ofNat b &&& 31).toBitVec.smod 32).toNat == b) = true := by decide +kernel
  have t1 := eq_of_beq (List.all_eq_true.mp t W (List.mem_range.mpr (by omega)))
  have e : (x >>> (y &&& 31)).toInt = ((m / 2 ^ W : Nat) : Int) := by
    show (x >>> (y &&& 31)).toBitVec.toInt = _
    rw [ey, Int32.toBitVec_shiftRight, BitVec.sshiftRight_eq', t1, BitVec.toInt_sshiftRight]
    show x.toInt >>> W = _
    rw [hx, Int.shiftRight_eq_div_pow]
    rfl
  constructor
  · intro h
    rw [h, z32] at e
    have e : m / 2 ^ W = 0 := by omega
    exact (Nat.div_eq_zero_iff_lt (Nat.two_pow_pos W)).mp e
  · intro h
    refine Int32.toInt_inj.mp ?_
    rw [e, Nat.div_eq_of_lt h, z32]
    rfl
theorem rmX_0 {mt : Int} (i j : Nat) : rmX R (-1) (-1) mt i j = R i j := by
  unfold rmX
  rw [if_neg (by omega), if_neg (by omega)]
  omega
/-- both sides look at the same village, the same rooms -/
def LK5 (w w5 w6 : pm_W) (u : Nat) (s1 : SN) : Prop := WSH w5 (Pof (al w) u) (Wof (al w) u) (wAf (al w) u) (wBf (al w) u) (wNf (al w) u) ∧ WSR w6 u (Pof (al w) u) (Wof (al w) u) (wAf (al w) u) (wBf (al w) u) (wNf (al w) u) ∧ (∀ i j, i < Pof (al w) u → j < Pof (al w) u → 0 ≤ rmW w5 i j ∧ rmW w5 i j ≤ 1000) ∧ (∀ i j, i < Pof (al w) u → j < Pof (al w) u → rmW w5 i j = rmA w6 u i j) ∧ (gI w5 68 7).toInt = ((2 ^ Wof (al w) u : Nat) : Int) ∧ (∀ s, s < 2 ^ Wof (al w) u → vaW w5 s = vlS (fun κ => wtP (al w) u κ 3) (Wof (al w) u) s) ∧ al w6 = al w ∧ gI w6 147 31 = gI w 147 31 ∧ (∀ κ, κ < Wof (al w) u → 0 ≤ (wtP (al w) u κ 3).toInt ∧ (wtP (al w) u κ 3).toInt ≤ 99) ∧ (0 ≤ (al w (612 + 132 * u)).toInt ∧ (al w (612 + 132 * u)).toInt ≤ 9) ∧ Wof (al w) u ≤ 7
/-- the class's load with a look -/
theorem LK5_c (h3 : RL3 w) (zz : PS X k 98 0 [.ref 0, .int p1, .int p2, .int p3, pm_dead, pm_dead, pm_dead] [] w q1 w3) (a1 : q1 = some (.int 1)) (y : PS X k2 159 0 [.ref 68, .ref 33, pm_dead, pm_dead] [] w3 r w5) : r = none ∧ ∃ (u : Nat) (s1 : SN), p1.toInt = u ∧ u < (al w 0).toInt.toNat ∧ u ≤ 1 ∧ CSt w3 33 (5 + 5 * u) (Pof (al w) u) s1.1 s1.2.1 s1.2.2.1 s1.2.2.2 ∧ FM [(33, 0), (33, 1), (33, 2)] [39, 40, 41] w w3 ∧ FM [(68, 0), (68, 7)] [74, 77] w3 w5 ∧ gR w5 33 0 = 5 + 5 * u ∧ (gI w5 (5 + 5 * u) 0).toInt = Pof (al w) u ∧ gI w5 (5 + 5 * u) 1 = al w (612 + 132 * u) ∧ ∀ (w6 : pm_W) (t1 t2 : SN), LD3 w w3 w6 p1 u t1 t2 → al w6 = al w → gI w6 147 31 = gI w 147 31 → LK5 w w5 w6 u s1 := by
  obtain ⟨f1, alt⟩ := F98 h3 zz
  rcases alt with ⟨u, s1, b1, a2, a3⟩ | ⟨b1, _⟩
  · have hu := a2.2.1
    obtain ⟨v1, v1', v3, v2, v4⟩ := VA_v h3.2 hu
    obtain ⟨x1, x2, x3⟩ := VA_w h3.2 hu
    have u1 : u ≤ 1 := by have := h3.1.2.1.1.2.1; omega
    have bd : ∀ q, 0 ≤ (s1.1 q).toInt ∧ (s1.1 q).toInt ≤ 99 := (LDR_2 h3.2 a2 a2).2.2.2.2.2.1.1.1
    obtain ⟨c1, c2, c3, c4, c5, c6, c7, c8⟩ := LOOK3 h3 f1 hu a3 bd y
    obtain ⟨g1, g2, g3, g4⟩ := CVL h3 hu f1 a3
    have gv : (gI w5 (5 + 5 * u) 0).toInt = Pof (al w) u := by rw [← c3]; exact c4
    refine ⟨c1, u, s1, a2.1, hu, u1, a3, f1, c2, by rw [FM_r c2 (by simp)]; exact g3, gv, by rw [FM_i c2 (by simp <;> omega)]; rw [g3] at g2; exact g2, fun w6 t1 t2 hL e6 hmf => ?_⟩
    obtain ⟨d1, d2, d3, d4, d5, d6, d7⟩ := hL
    have ed : dR w6 = s1.1 := by
      have x1 : dA w3 33 = t1.1 := d5.2.2.1
      rw [show dR w6 = t2.1 from d6.1, d4.1, ← x1]
      exact a3.2.2.1
    have era : rmA w6 u = fun i j => (rmI (Vof (al w) u) s1.1 i j).toInt := by
      funext i j
      unfold rmA
      rw [ed, e6]
      rfl
    refine ⟨LOOK_V h3 f1 hu c2 c3 c4, WSR_ld h3.2 hu u1 e6 (by rw [era]; exact c8), fun i j hi hj => by rw [c7 i j hi hj]; have := c8 i j hi hj; omega, fun i j hi hj => by rw [c7 i j hi hj, era], c5, c6, e6, hmf, fun κ hκ => ?_, v4, x2⟩
    have q := x3 κ hκ
    exact ⟨q.2.2.2.2.2.2.2.1, q.2.2.2.2.2.2.2.2⟩
  · rw [a1] at b1; exact absurd b1 i10
theorem can_2 {mt : Int} (h : LK5 w w5 w6 u s1) : ∀ s, CANH (rmW w5) (Pof (al w) u) (Wof (al w) u) (wAf (al w) u) (wBf (al w) u) (wNf (al w) u) s sl ↔ CANH (rmX (rmA w6 u) (-1) (-1) mt) (Pof (al w) u) (Wof (al w) u) (wAf (al w) u) (wBf (al w) u) (wNf (al w) u) s sl := fun s => CANH_cg (fun i j hi hj => by rw [rmX_0]; exact h.2.2.2.1 i j hi hj)
theorem m1i : (-1 : Int32).toInt = -1 := by decide +kernel
/-- had -/
theorem RC_20 (h3 : RL3 w) (hmf : gI w 147 31 = -1) (h1 : PS X k 167 0 [.ref 0, .int p1, .int p2, .int p3, .int p4, .int p5] [] w r w1) (h2 : PS X k2 282 0 [.ref 147, .int p1, .int p2, .int p3, .int p4, .int p5, pm_dead] [] w1 r2 w2) : r2 = r := by
  have hS := h3.1.1
  cases k with
  | zero => exact (PS_0 h1).elim
  | succ k =>
    cases k2 with
    | zero => exact (PS_0 h2).elim
    | succ k2 =>
      obtain ⟨q1, w3, z, h1⟩ := U167_0 hS h1
      cases k with
      | zero => exact (PS_0 z).elim
      | succ k =>
        obtain ⟨q2, w4, zz, hz⟩ := U168_0 hS z
        obtain ⟨f1, alt⟩ := F98 h3 zz
        have S4 : SK w4 := f1.2.2.2
        have ea := FM_al f1
        have hm4 : gI w4 147 31 = gI w 147 31 := FM_i f1 (by simp)
        -- where the class says no without asking
        have no : q1 = some (.int 0) → w3 = w4 → (q2 = some (.int 0) ∨ ∃ u : Nat, p1.toInt = u ∧ ¬ (0 ≤ p4.toInt ∧ p4.toInt < ((2 ^ Wof (al w) u : Nat) : Int))) → r2 = r := by
          intro e1 e2 hq
          rw [e2] at h1
          have h1 := h1 _ e1 S4
          rw [if_pos rfl] at h1
          rw [h1.2] at h2
          obtain ⟨q6, w6, y6, h2⟩ := U282_0 S4 h2
          obtain ⟨f6, e6, alt2⟩ := LOAD3 h3 zz S4 ea y6
          have S6 : SK w6 := f6.2.2.2
          rw [h1.1]
          rcases alt2 with ⟨_, g1⟩ | ⟨u', t1, t2, g1, g2, c1, c2, c3, _⟩
          · have h2 := h2 _ g1 S6
            rw [if_pos rfl] at h2
            exact h2.1
          · have h2 := h2 _ g2 S6
            rw [if_neg (by decide +kernel)] at h2
            have h2 := use_p S6 h2 (fun _ _ y => F217v S6 c1 c3 y)
            obtain ⟨q8, w8, y8, h8⟩ := h2
            obtain ⟨x1, x2, _⟩ := VA_w h3.2 c2
            have z8 : q8 = some (.int 0) ∧ w8 = w6 := by
              cases k2 with
              | zero => exact (PS_0 y8).elim
              | succ k2 =>
                have y8 := U283_0 S6 y8
                by_cases d1 : p4 < 0
                · rw [if_pos d1] at y8; exact y8
                · rw [if_neg d1] at y8
                  rw [Int32.lt_iff_toInt_lt, z32] at d1
                  obtain ⟨_, y8⟩ := y8
                  have eW : (aG w6 148 (610 + 132 * p1 + 1)).toInt = Wof (al w) u' := by
                    rw [aG_n (m := 611 + 132 * u') (by rw [zi_add (plV c1 c3) o32 (by omega) (by omega)]; omega)]
                    show (al w6 _).toInt = _
                    rw [e6]; exact x1
                  obtain ⟨mm, hmm⟩ : ∃ mm : Nat, p4.toInt = mm := ⟨p4.toInt.toNat, by omega⟩
                  have q := shr_0 hmm eW x2
                  by_cases d2 : (p4 >>> (aG w6 148 (610 + 132 * p1 + 1) &&& 31)) = 0
                  · exfalso
                    have q := q.mp d2
                    rcases hq with hq | ⟨u2, hu2, hq⟩
                    · rw [g1] at hq; exact absurd hq i10
                    · have e : u2 = u' := by omega
                      rw [e] at hq
                      exact hq ⟨by omega, by omega⟩
                  · rw [if_neg d2] at y8; exact y8
            have h2 := h8 _ z8.1 (by rw [z8.2]; exact S6)
            rw [if_pos rfl] at h2
            exact h2.1
        rcases alt with ⟨u, s1, a1, a2, a3⟩ | ⟨a1, a2⟩
        · have hz := hz _ a1 S4
          rw [if_neg (by decide +kernel)] at hz
          have hu := a2.2.1
          obtain ⟨x1, x2, _⟩ := VA_w h3.2 hu
          obtain ⟨u1, _, gw, _⟩ := VT hS h3.1.2.1 hu
          obtain ⟨g1, g2, g3, g4⟩ := CVL h3 hu f1 a3
          have gW : (gI w4 (gR w4 33 0) 2).toInt = Wof (al w) u := by
            rw [g3, FM_i f1 (by simp <;> omega), gw]
            exact x1
          have ep := sh_pow gW x2
          have p128 : 2 ^ Wof (al w) u ≤ 128 := Nat.le_trans (Nat.pow_le_pow_right (by decide) x2) (by decide)
          by_cases c1 : p4 < 0
          · rw [if_pos c1] at hz
            rw [Int32.lt_iff_toInt_lt, z32] at c1
            exact no hz.1 hz.2 (Or.inr ⟨u, a2.1, by omega⟩)
          · rw [if_neg c1] at hz
            rw [Int32.lt_iff_toInt_lt, z32] at c1
            by_cases c2 : p4 < (1 <<< (gI w4 (gR w4 33 0) 2 &&& 31))
            · rw [if_pos c2] at hz
              rw [Int32.lt_iff_toInt_lt, ep] at c2
              obtain ⟨q4, w5, y5, h5⟩ := hz
              obtain ⟨b1, u', s1', b2, b3, b4, b5, b6, b7, b8, b9, b10, b11⟩ := LK5_c h3 zz a1 y5
              have eu : u' = u := by have := a2.1; omega
              subst eu
              have S5 : SK w5 := b7.2.2.2
              obtain ⟨d1, d2⟩ := h5 b1 S5
              rw [d2] at h1
              have h1 := h1 _ d1 S5
              rw [if_neg (by decide +kernel), b8, b10] at h1
              obtain ⟨s, hs⟩ : ∃ s : Nat, p4.toInt = s := ⟨p4.toInt.toNat, by omega⟩
              -- the class's answer, for either slack
              have e5 : al w5 = al w := by rw [al_FM b7 (by decide), ea]
              have hm5 : gI w5 147 31 = gI w 147 31 := by rw [FM_i b7 (by simp), hm4]
              have cls : ∀ slv : Int32, 0 ≤ slv.toInt → slv.toInt ≤ 99 → (∃ (r4 : Option Value) (w7 : pm_W), PS X (k + 1) 169 0 [.ref 68, .int p4, .int slv] [] w5 r4 w7 ∧ (∀ x6 : Int32, r4 = some (.int x6) → SK w7 → (r = some (.int x6) ∧ w1 = w7))) → WSH w5 (Pof (al w) u') (Wof (al w) u') (wAf (al w) u') (wBf (al w) u') (wNf (al w) u') → (∀ i j, i < Pof (al w) u' → j < Pof (al w) u' → 0 ≤ rmW w5 i j ∧ rmW w5 i j ≤ 1000) → FM [] [75, 76, 80, 81, 82] w5 w1 ∧ ∃ bb : Bool, r = some (.int (b2i bb)) ∧ (bb = true ↔ CANH (rmW w5) (Pof (al w) u') (Wof (al w) u') (wAf (al w) u') (wBf (al w) u') (wNf (al w) u') s slv.toInt) := by
                intro slv s0 s9 h hV hR
                obtain ⟨q7, w7, y7, h⟩ := h
                obtain ⟨f7, bb, m1, m2⟩ := F169 (s := s) S5 hV hR (MSK_set hs (by omega)) rfl ⟨s0, s9⟩ y7
                have h := h _ m1 f7.2.2.2
                rw [h.2]
                exact ⟨f7, bb, h.1, m2⟩
              -- the reference, behind a class's run that leaves what is told alone
              have ref : ∀ slv : Int32, slv = (if p5 = 0 then 0 else al w (612 + 132 * u')) → FM [] [75, 76, 80, 81, 82] w5 w1 → ∃ w6 : pm_W, LK5 w w5 w6 u' s1' ∧ ∃ bb : Bool, r2 = some (.int (b2i bb)) ∧ (bb = true ↔ CANH (rmX (rmA w6 u') (-1) (-1) (gI w6 147 32).toInt) (Pof (al w) u') (Wof (al w) u') (wAf (al w) u') (wBf (al w) u') (wNf (al w) u') s slv.toInt) := by
                intro slv hslv f9
                have S9 := f9.2.2.2
                have e9 : al w1 = al w := by rw [al_FM f9 (by decide), e5]
                obtain ⟨q6, w6, y6, h2⟩ := U282_0 S9 h2
                obtain ⟨f6, e6, alt2⟩ := LOAD3 h3 zz S9 e9 y6
                have S6 : SK w6 := f6.2.2.2
                have hm6 : gI w6 147 31 = gI w 147 31 := by rw [FM_i f6 (by simp), FM_i f9 (by simp), hm5]
                rcases alt2 with ⟨gg1, _⟩ | ⟨u2, t1, t2, _, gg2, hL⟩
                · rw [a1] at gg1; exact absurd gg1 i10
                · have eu : u2 = u' := by have := hL.1; omega
                  subst eu
                  have hK := b11 w6 t1 t2 hL e6 hm6
                  have hc1 := hL.1
                  have hc3 := hL.2.2.1
                  have h2 := h2 _ gg2 S6
                  rw [if_neg (by decide +kernel)] at h2
                  have h2 := use_p S6 h2 (fun _ _ y => F217v S6 hc1 hc3 y)
                  obtain ⟨q8, w8, y8, h8⟩ := h2
                  have z8 : q8 = some (.int 1) ∧ w8 = w6 := by
                    cases k2 with
                    | zero => exact (PS_0 y8).elim
                    | succ k2 =>
                      have y8 := U283_0 S6 y8
                      rw [if_neg (by rw [Int32.lt_iff_toInt_lt, z32]; omega)] at y8
                      obtain ⟨_, y8⟩ := y8
                      have eW : (aG w6 148 (610 + 132 * p1 + 1)).toInt = Wof (al w) u2 := by
                        rw [aG_n (m := 611 + 132 * u2) (by rw [zi_add (plV hc1 hc3) o32 (by omega) (by omega)]; omega)]
                        show (al w6 _).toInt = _
                        rw [e6]; exact x1
                      rw [if_pos ((shr_0 hs eW x2).mpr (by omega))] at y8
                      exact y8
                  have h2 := h8 _ z8.1 (by rw [z8.2]; exact S6)
                  rw [if_neg (by decide +kernel), z8.2] at h2
                  have h2 := use_p S6 h2 (fun _ _ y => F217v S6 hc1 hc3 y)
                  have v4 := hK.2.2.2.2.2.2.2.2.2.1
                  have fin : ∀ sv : Int32, sv = slv → (∃ (r13 : Option Value) (w14 : pm_W), PS X k2 284 0 [.ref 147, .int (610 + 132 * p1), .int p4, .int sv, .int (-1), pm_dead, pm_dead] [] w6 r13 w14 ∧ (∀ x15 : Int32, r13 = some (.int x15) → SK w14 → (r2 = some (.int x15) ∧ w2 = w14))) → ∃ w6 : pm_W, LK5 w w5 w6 u2 s1' ∧ ∃ bb : Bool, r2 = some (.int (b2i bb)) ∧ (bb = true ↔ CANH (rmX (rmA w6 u2) (-1) (-1) (gI w6 147 32).toInt) (Pof (al w) u2) (Wof (al w) u2) (wAf (al w) u2) (wBf (al w) u2) (wNf (al w) u2) s slv.toInt) := by
                    intro sv hsv h
                    obtain ⟨q9, w9, y9, h9⟩ := h
                    have hsb : 0 ≤ sv.toInt ∧ sv.toInt ≤ 99 := by
                      rw [hsv, hslv]
                      by_cases q : p5 = 0
                      · rw [if_pos q, z32]; omega
                      · rw [if_neg q]; omega
                    obtain ⟨f9', bb, m1, m2⟩ := F284 (s := s) S6 hK.2.1 (plV hc1 hc3) (MSK_set hs (by omega)) rfl hsb y9
                    rw [hm6, hmf, m1i, hsv] at m2
                    exact ⟨w6, hK, bb, (h9 _ m1 f9'.2.2.2).1, m2⟩
                  by_cases q : p5 = 0
                  · rw [if_pos q] at h2 hslv
                    exact fin 0 hslv.symm h2
                  · rw [if_neg q] at h2 hslv
                    have es : aG w6 148 (610 + 132 * p1 + 2) = al w (612 + 132 * u2) := by
                      rw [aG_n (m := 612 + 132 * u2) (by rw [zi_add (plV hc1 hc3) two32 (by omega) (by omega)]; omega)]
                      show al w6 _ = _
                      rw [e6]
                    exact fin _ (by rw [es]; exact hslv.symm) h2.2
              have vK : WSH w5 (Pof (al w) u') (Wof (al w) u') (wAf (al w) u') (wBf (al w) u') (wNf (al w) u') ∧ ∀ i j, i < Pof (al w) u' → j < Pof (al w) u' → 0 ≤ rmW w5 i j ∧ rmW w5 i j ≤ 1000 := by
                have bd : ∀ q, 0 ≤ (s1.1 q).toInt ∧ (s1.1 q).toInt ≤ 99 := (LDR_2 h3.2 a2 a2).2.2.2.2.2.1.1.1
                obtain ⟨_, c2', c3', c4', _, _, c7', c8'⟩ := LOOK3 h3 f1 hu a3 bd y5
                exact ⟨LOOK_V h3 f1 hu c2' c3' c4', fun i j hi hj => by rw [c7' i j hi hj]; have := c8' i j hi hj; omega⟩
              obtain ⟨_, _, _, _, hv4⟩ := VA_v h3.2 hu
              have both : ∀ slv : Int32, slv = (if p5 = 0 then 0 else al w (612 + 132 * u')) → (∃ (r4 : Option Value) (w7 : pm_W), PS X (k + 1) 169 0 [.ref 68, .int p4, .int slv] [] w5 r4 w7 ∧ (∀ x6 : Int32, r4 = some (.int x6) → SK w7 → (r = some (.int x6) ∧ w1 = w7))) → r2 = r := by
                intro slv hslv h
                have hsb : 0 ≤ slv.toInt ∧ slv.toInt ≤ 99 := by
                  rw [hslv]
                  by_cases q : p5 = 0
                  · rw [if_pos q, z32]; omega
                  · rw [if_neg q]; omega
                obtain ⟨f9, bb, m1, m2⟩ := cls slv hsb.1 hsb.2 h vK.1 vK.2
                obtain ⟨w6, hK, b2, n1, n2⟩ := ref slv hslv f9
                have : b2 = bb := by
                  have q := (n2.trans (can_2 hK s).symm).trans m2.symm
                  cases bb <;> cases b2 <;> simp_all
                rw [n1, m1, this]
              by_cases q : p5 = 0
              · rw [if_pos q] at h1
                exact both 0 (by rw [if_pos q]) h1
              · rw [if_neg q] at h1
                exact both _ (by rw [if_neg q]) h1
            · rw [if_neg c2] at hz
              rw [Int32.lt_iff_toInt_lt, ep] at c2
              exact no hz.1 hz.2 (Or.inr ⟨u, a2.1, by omega⟩)
        · have hz := hz _ a1 S4
          rw [if_pos rfl] at hz
          exact no hz.1 hz.2 (Or.inl a1)
end IUH
