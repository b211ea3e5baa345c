/-! ===== can a set of wants be had: the reference as a whole; which sets there are ===== -/
section ISH
variable {X : pm_X} {k k2 : Nat} {w0 w w1 w2 w3 w4 w5 wj w' : pm_W} {r r2 q0 q1 q2 : Option Value} {p1 p2 p3 p4 p5 i1 i2 i3 i4 i5 i6 i7 i8 z z1 z2 x y : Int32} {i v j m u P t s b Q I J K T p W M N κ : Nat} {R R' C ask c : Nat → Nat → Int} {e g d sl : Int} {A B : Nat → Nat} {n o : Nat → Int} {S : Nat → Bool} {a : Nat → Int32}
/-- the reference's village: as many wants, each with its A, B, n -/
def WSR (w : pm_W) (u P W : Nat) (A B : Nat → Nat) (n : Nat → Int) : Prop := u ≤ 1 ∧ (al w (610 + 132 * u)).toInt = P ∧ P ≤ 9 ∧ (al w (611 + 132 * u)).toInt = W ∧ W ≤ 7 ∧ (∀ κ, κ < W → (wtP (al w) u κ 0).toInt = A κ ∧ (wtP (al w) u κ 1).toInt = B κ ∧ (wtP (al w) u κ 2).toInt = n κ ∧ A κ < P ∧ B κ < P ∧ 1 ≤ n κ ∧ n κ ≤ 99) ∧ ∀ i j, i < P → j < P → 0 ≤ rmA w u i j ∧ rmA w u i j ≤ 99
theorem rmA_fm {fs : List (Nat × Nat)} {as : List Nat} (f : FM fs as w w') (h1 : 148 ∉ as) (h2 : 152 ∉ as) : rmA w' u = rmA w u := by
  funext i j
  unfold rmA
  rw [al_FM f h1, show dR w' = dR w from by funext q; unfold dR; rw [FM_a f h2]]
theorem WSR_fm {fs : List (Nat × Nat)} {as : List Nat} (h : WSR w u P W A B n) (f : FM fs as w w') (h1 : 148 ∉ as) (h2 : 152 ∉ as) : WSR w' u P W A B n := by
  unfold WSR
  rw [al_FM f h1, rmA_fm f h1 h2]
  exact h
theorem F284 (hS : SK w) (hV : WSR w u P W A B n) (hp : p1.toInt = (610 + 132 * u : Nat)) (hm : MSK p2 7 (fun b => s.testBit b)) (hsl : p3.toInt = sl) (hs9 : 0 ≤ sl ∧ sl ≤ 99) (h : PS X k 284 0 [.ref 147, .int p1, .int p2, .int p3, .int p4, pm_dead, pm_dead] [] w r w') : FM [] [160, 161, 162, 163, 164] w w' ∧ ∃ b : Bool, r = some (.int (b2i b)) ∧ (b = true ↔ CANH (rmX (rmA w u) p4.toInt (gI w 147 31).toInt (gI w 147 32).toInt) P W A B n s sl) := by
  obtain ⟨hu, hP, hP9, hW, hW7, hw, hR⟩ := id hV
  have hn : ∀ κ, κ < W → 1 ≤ n κ ∧ n κ ≤ 99 := fun κ hκ => (hw κ hκ).2.2.2.2.2
  have eW : (aG w 148 (p1 + 1)).toInt = W := by
    rw [aG_n (m := 611 + 132 * u) (by rw [zi_add hp o32 (by omega) (by omega)]; omega)]
    exact hW
  have lp : ∀ (k t : Nat) (i5 : Int32), i5.toInt = t → t ≤ W → PS X k 284 3 [.ref 147, .int p1, .int p2, .int p3, .int p4, .int i5, pm_dead] [] w r w' → FM [] [160, 161, 162, 163, 164] w w' ∧ ∃ b : Bool, r = some (.int (b2i b)) ∧ (b = true ↔ CANH (rmX (rmA w u) p4.toInt (gI w 147 31).toInt (gI w 147 32).toInt) P W A B n s sl) := by
    intro k
    induction k using Nat.strongRecOn with
    | _ k ih =>
      intro t i5 h5 ht h
      match k, ih, h with
      | 0, _, h => exact (PS_0 h).elim
      | k + 1, ih, h =>
        obtain ⟨_, h⟩ := U284_3 hS h
        by_cases c : aG w 148 (p1 + 1) ≤ i5
        · rw [if_pos c] at h
          obtain ⟨q1, w2, y, h⟩ := h
          obtain ⟨a1, f1, a2, a3, a4⟩ := F285 hS hu hp hW hW7 hP9 hw hm y
          have h := h a1 f1.2.2.2
          have er : rmA w2 u = rmA w u := rmA_fm f1 (by decide) (by decide)
          have ea : al w2 = al w := al_FM f1 (by decide)
          obtain ⟨b1, b2⟩ := (F284_l (w0 := w2) (n := n) (s := s) (A := A) (B := B) (W := W) hu hp (by rw [ea]; exact hP) hP9 hsl hs9 (by rw [er]; exact hR) rfl hW7 (fun κ hκ => (hw κ hκ).2.2.2) a2 a3 (fun i j hi hj => (a4 i j hi hj).2) k).1 w2 0 0 _ (FM_refl f1.2.2.2) z32 (Nat.zero_le _) (fun i j hi hj => by
            rw [(a4 i j hi hj).1]
            unfold LAYx
            rw [if_neg (by omega), if_neg (by omega)]) (fun i j hi => absurd hi (Nat.not_lt_zero i)) h
          rw [er, FM_i f1 (by simp), FM_i f1 (by simp)] at b2
          exact ⟨FM_trans (FM_mono f1 (by intro x hx; cases hx) (by decide)) (FM_mono b1 (by intro x hx; cases hx) (by decide)), b2⟩
        · rw [if_neg c] at h
          rw [Int32.le_iff_toInt_le, eW, h5] at c
          have htW : t < W := by omega
          obtain ⟨b1, b2, b3, c1, c2, c3, c4⟩ := hw t htW
          have tb : ((p2 >>> (i5 &&& 31)) &&& 1) = 1 ↔ s.testBit t = true := MSK_t hm h5 (by omega) (by decide)
          have no : s.testBit t = true → ((A t : Int) = p4.toInt ∨ (B t : Int) = p4.toInt) → PS X k 284 52 [.ref 147, .int p1, .int p2, .int p3, .int p4, .int i5, pm_dead] [] w r w' → FM [] [160, 161, 162, 163, 164] w w' ∧ ∃ b : Bool, r = some (.int (b2i b)) ∧ (b = true ↔ CANH (rmX (rmA w u) p4.toInt (gI w 147 31).toInt (gI w 147 32).toInt) P W A B n s sl) := by
            intro hb hx h
            match k, h with
            | 0, h => exact (PS_0 h).elim
            | k + 1, h =>
              obtain ⟨e1, e2⟩ := U284_52 hS h
              rw [e2]
              refine ⟨FM_refl hS, false, e1, fun z => Bool.noConfusion z, fun hz => ?_⟩
              have q := hz.1 (A t) (B t) c1 c2
              have q2 := ask_ge (A := A) (B := B) hn hb W (Nat.le_refl _) htW
              unfold rmX at q
              rw [if_pos hx] at q
              have := hn t htW
              omega
          have go : PS X k 284 54 [.ref 147, .int p1, .int p2, .int p3, .int p4, .int i5, pm_dead] [] w r w' → FM [] [160, 161, 162, 163, 164] w w' ∧ ∃ b : Bool, r = some (.int (b2i b)) ∧ (b = true ↔ CANH (rmX (rmA w u) p4.toInt (gI w 147 31).toInt (gI w 147 32).toInt) P W A B n s sl) := by
            intro h
            match k, ih, h with
            | 0, _, h => exact (PS_0 h).elim
            | k + 1, ih, h => exact ih k (by omega) (t + 1) _ (by rw [zi_inc (n := 40) (by omega) (by omega), h5]; rfl) (by omega) (U284_54 hS h)
          by_cases c5 : ((p2 >>> (i5 &&& 31)) &&& 1) = 1
          · rw [if_pos c5] at h
            have hb := tb.mp c5
            have h := use_p hS h (fun _ _ y => F224w (c := 0) hS hu hp h5 (by omega) z32 (by decide) y)
            by_cases c6 : wtP (al w) u t 0 = p4
            · rw [if_pos c6] at h
              exact no hb (Or.inl (by rw [← b1, c6])) h
            · rw [if_neg c6] at h
              have h := use_p hS h (fun _ _ y => F224w (c := 1) hS hu hp h5 (by omega) o32 (by decide) y)
              by_cases c7 : wtP (al w) u t 1 = p4
              · rw [if_pos c7] at h
                exact no hb (Or.inr (by rw [← b2, c7])) h
              · rw [if_neg c7] at h
                exact go h
          · rw [if_neg c5] at h
            exact go h
  cases k with
  | zero => exact (PS_0 h).elim
  | succ k => exact lp k 0 0 z32 (Nat.zero_le _) (U284_0 hS h)
/-- a set's bits as a mask -/
theorem MSK_set (hx : x.toInt = s) (hs : s < 128) : MSK x 7 (fun b => s.testBit b) := by
  intro i hi
  rw [i32_of hx (by omega), show (Int32.ofNat s).toBitVec = BitVec.ofNat 32 s from rfl, BitVec.getLsbD_ofNat, decide_eq_true hi, Bool.true_and]
  by_cases e : i < 7
  · rw [decide_eq_true e]; rfl
  · rw [decide_eq_false e, Nat.testBit_lt_two_pow (Nat.lt_of_lt_of_le hs (show 2 ^ 7 ≤ 2 ^ i from Nat.pow_le_pow_right (by decide) (by omega)))]; rfl
theorem CANH_cg (h : ∀ i j, i < P → j < P → R i j = R' i j) : CANH R P W A B n s sl ↔ CANH R' P W A B n s sl := by
  unfold CANH
  rw [capS_cg (R := R) (R' := R') (ask := askS A B n s W) (ask' := askS A B n s W) (fun i j hi hj => ⟨h i j hi hj, rfl⟩)]
  constructor
  · rintro ⟨h1, h2⟩
    exact ⟨fun i j hi hj => by rw [← h i j hi hj]; exact h1 i j hi hj, h2⟩
  · rintro ⟨h1, h2⟩
    exact ⟨fun i j hi hj => by rw [h i j hi hj]; exact h1 i j hi hj, h2⟩
/-- what the class looks at behind LOOK3 is the village loaded -/
theorem LOOK_V (h3 : RL3 w) (f1 : FM [(33, 0), (33, 1), (33, 2)] [39, 40, 41] w w3) (hu : u < (al w 0).toInt.toNat) (f2 : FM [(68, 0), (68, 7)] [74, 77] w3 w5) (g : gR w5 68 0 = 5 + 5 * u) (gP : (gI w5 (gR w5 68 0) 0).toInt = Pof (al w) u) : WSH w5 (Pof (al w) u) (Wof (al w) u) (wAf (al w) u) (wBf (al w) u) (wNf (al w) u) := by
  have hS := h3.1.1
  have S3 : SK w3 := f1.2.2.2
  obtain ⟨v1, _, v3, v2, v4⟩ := VA_v h3.2 hu
  obtain ⟨x1, x2, x3⟩ := VA_w h3.2 hu
  obtain ⟨u1, g0, gw, _, _, _, _, g6⟩ := VT hS h3.1.2.1 hu
  obtain ⟨_, _, _, v6⟩ := VR S3 u1
  rw [g] at gP
  have cell : ∀ κ c, κ < Wof (al w) u → c < 4 → (gA w5 (5 + 5 * u + 4)).getD (4 * κ + c) 0 = wtP (al w) u κ c := fun κ c hκ hc => by
    rw [show 5 + 5 * u + 4 = 9 + 5 * u by omega, FM_a f2 (by simp <;> omega), FM_a f1 (by simp <;> omega), g6 _ (by omega)]
    unfold wtP
    rw [show 712 + 132 * u + (4 * κ + c) = 712 + 132 * u + 4 * κ + c by omega]
  refine ⟨5 + 5 * u, g, gP, v1, by rw [FM_i f2 (by simp <;> omega), FM_i f1 (by simp <;> omega), gw]; exact x1, x2, by rw [FM_r f2 (by simp <;> omega), v6]; omega, by omega, fun κ hκ => ?_, fun κ hκ => ?_⟩
  · obtain ⟨y0, y0', y1, y1', _⟩ := x3 κ hκ
    have c0 : (gA w5 (5 + 5 * u + 4)).getD (4 * κ) 0 = wtP (al w) u κ 0 := cell κ 0 hκ (by decide)
    rw [c0, cell κ 1 hκ (by decide), cell κ 2 hκ (by decide)]
    unfold wAf wBf wNf
    exact ⟨by omega, by omega, rfl⟩
  · obtain ⟨y0, y0', y1, y1', _, y2, y2', _⟩ := x3 κ hκ
    unfold wAf wBf wNf
    omega
theorem WSR_ld (hV : VAa (al w0)) (hu : u < (al w0 0).toInt.toNat) (u1 : u ≤ 1) (ea : al w = al w0) (hr : ∀ i j, i < Pof (al w0) u → j < Pof (al w0) u → 0 ≤ rmA w u i j ∧ rmA w u i j ≤ 99) : WSR w u (Pof (al w0) u) (Wof (al w0) u) (wAf (al w0) u) (wBf (al w0) u) (wNf (al w0) u) := by
  obtain ⟨v1, _, v3, v2, v4⟩ := VA_v hV hu
  obtain ⟨x1, x2, x3⟩ := VA_w hV hu
  refine ⟨u1, by rw [ea]; exact v3, v1, by rw [ea]; exact x1, x2, fun κ hκ => ?_, hr⟩
  obtain ⟨y0, y0', y1, y1', _, y2, y2', _⟩ := x3 κ hκ
  rw [ea]
  unfold wAf wBf wNf
  omega
end ISH
