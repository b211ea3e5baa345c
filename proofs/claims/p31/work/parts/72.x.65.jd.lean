/-! ===== least, asked on both sides ===== -/
section JDA
variable {X : pm_X} {k k2 : Nat} {w0 w w1 w2 w3 w4 w5 wj w' : pm_W} {r r2 q0 q1 q2 : Option Value} {p1 p2 p3 p4 p5 i1 i2 i3 i4 i5 i6 i7 i8 z z1 z2 x y : Int32} {i v j m u P t s b Q I J K a T p W N κ : Nat} {R R' ask : Nat → Nat → Int} {e g M sl : Int} {A B : Nat → Nat} {n : Nat → Int} {wv : Nat → Int32}
/-- the reference's evens over what was asked and laid -/
theorem EVC (hS : SK w) (Rb : ∀ i j, i < P → j < P → 0 ≤ R i j ∧ R i j ≤ 100) (hP9 : P ≤ 9) (hW7 : W ≤ 7) (hAB : ∀ κ, κ < W → A κ < P ∧ B κ < P ∧ 1 ≤ n κ ∧ n κ ≤ 99) (hs9 : 0 ≤ sl ∧ sl ≤ 99) (el : ∀ i j, i < 10 → j < 10 → loR w i j = askS A B n s W i j) (eo : ∀ p, p < 10 → ovR w p = surS A B n s W p) (ef : ∀ i j, i < 10 → j < 10 → fwR w i j = 0) (hf : ∀ i j, i < 10 → j < 10 → moR w i j = LAYx R P sl P 0 i j) (hc : ∀ i j, i < P → j < P → askS A B n s W i j ≤ R i j) (y : PS X k 278 0 [.ref 147, pm_dead, pm_dead, pm_dead, pm_dead] [] w r w2) : FM [] [162, 163, 164] w w2 ∧ ∃ b : Bool, r = some (.int (b2i b)) ∧ (b = true ↔ CANH R P W A B n s sl) := by
  have hn : ∀ κ, κ < W → 1 ≤ n κ ∧ n κ ≤ 99 := fun κ hκ => (hAB κ hκ).2.2
  have hAB' : ∀ κ, κ < W → A κ < P ∧ B κ < P := fun κ hκ => ⟨(hAB κ hκ).1, (hAB κ hκ).2.1⟩
  have cc : ∀ i j, i < 10 → j < 10 → cR w i j = capS R (askS A B n s W) P sl i j := by
    intro i j hi hj
    unfold cR
    rw [hf i j hi hj, el i j hi hj]
    unfold LAYx capS
    by_cases q1 : i < P ∧ j < P
    · rw [if_pos (by omega), if_pos q1]
      have := hc i j q1.1 q1.2
      unfold psI
      omega
    · rw [if_neg (by omega), if_neg q1, ask_hi hAB' (by omega) W (Nat.le_refl _)]
      by_cases q2 : (i < P ∧ j = 9) ∨ (i = 9 ∧ j < P)
      · rw [if_pos q2]; omega
      · rw [if_neg q2]; omega
  have cb := capS_b (R := R) (ask := askS A B n s W) (P := P) (sl := sl) (fun i j hi hj => ⟨by have := (Rb i j hi hj).2; omega, (ask_b hn W (Nat.le_refl _)).1⟩) hs9
  have e0 : EV0 w := by
    refine ⟨fun i j hi hj => ?_, fun p hp => ?_⟩
    · rw [el i j hi hj, cc i j hi hj, hf i j hi hj]
      have q1 := ask_b (A := A) (B := B) (s := s) (i := i) (j := j) hn W (Nat.le_refl _)
      have q2 := cb i j
      have q3 : -1000000 ≤ LAYx R P sl P 0 i j ∧ LAYx R P sl P 0 i j ≤ 1000000 := by
        unfold LAYx
        split
        · rename_i hh
          have := Rb i j (by omega) (by omega)
          omega
        · split <;> omega
      omega
    · rw [eo p hp]
      have := sur_b (A := A) (B := B) (s := s) (p := p) hn W (Nat.le_refl _)
      omega
  obtain ⟨f2, b, b1, b2, b3, b4⟩ := F278 hS e0 ef (fun i j hi hj _ => by rw [cc i j hi hj]; exact (cb i j).1) y
  refine ⟨f2, b, b1, ?_⟩
  have cg : ∀ S : Nat → Bool, CUTo (cR w) (ovR w) S 10 = CUTo (capS R (askS A B n s W) P sl) (surS A B n s W) S 10 := by
    intro S
    unfold CUTo
    rw [cutC_cg cc, suI_cg (g := fun a => bz (!S a) (psI (surS A B n s W a)) + bz (S a) (psI (-surS A B n s W a))) 10 (fun p hp => by rw [eo p hp])]
  have sm : suI (fun p => psI (ovR w p)) 10 = suI (fun p => psI (surS A B n s W p)) 10 := suI_cg 10 (fun p hp => by rw [eo p hp])
  rw [sm] at b2
  have b2 : MCo (capS R (askS A B n s W) P sl) (surS A B n s W) 10 (suI (fun p => psI (surS A B n s W p)) 10 - suI (fun p => psI (ovR w2 p)) 10) := ⟨fun S => by rw [← cg]; exact b2.1 S, b2.2.elim (fun S q => ⟨S, by rw [← cg]; exact q⟩)⟩
  rw [b4]
  constructor
  · intro hz
    refine ⟨hc, ?_⟩
    have z0 : suI (fun p => psI (ovR w2 p)) 10 = 0 := suI_z 10 (fun p hp => by have := hz p hp; unfold psI; omega)
    rw [z0] at b2
    rw [show suI (fun p => psI (surS A B n s W p)) 10 = suI (fun p => psI (surS A B n s W p)) 10 - 0 by omega]
    exact b2
  · intro hz p hp
    have u := MCo_uq b2 hz.2
    have q := suI_0 (n := fun p => psI (ovR w2 p)) 10 (fun p _ => psI_0) (by omega) p hp
    unfold psI at q
    omega
theorem X145 (hS : SK w) (h : PS X k 292 145 [.ref 147, .int i1, .int i2, .int i3, .int i4, .int i5, .int i6, .int i7] [] w r w') : ∃ k', k' < k ∧ PS X k' 292 70 [.ref 147, .int i1, .int i2, .int i3, .int i4, .int 0, .int i6, .int (i7 + 1)] [] w r w' := by
  cases k with
  | zero => exact (PS_0 h).elim
  | succ k => exact ⟨k, Nat.lt_succ_self k, U292_145 hS h⟩
theorem X175 {u7 : Value} (hS : SK w) (h : PS X k 292 175 [.ref 147, .int i1, .int i2, .int i3, .int i4, .int i5, .int i6, u7] [] w r w') : ∃ k', k' < k ∧ PS X k' 292 37 [.ref 147, .int i1, .int i2, .int i3, .int (i4 + 1), .int i5, .int i6, u7] [] w r w' := by
  cases k with
  | zero => exact (PS_0 h).elim
  | succ k => exact ⟨k, Nat.lt_succ_self k, U292_175 hS h⟩
theorem F292_l (hu : u ≤ 1) (hp : i2.toInt = (610 + 132 * u : Nat)) (hP : (al w0 (610 + 132 * u)).toInt = P) (hP9 : P ≤ 9) (hW : (al w0 (611 + 132 * u)).toInt = W) (hW7 : W ≤ 7) (hw : ∀ κ, κ < W → (wtP (al w0) u κ 0).toInt = A κ ∧ (wtP (al w0) u κ 1).toInt = B κ ∧ (wtP (al w0) u κ 2).toInt = n κ ∧ A κ < P ∧ B κ < P ∧ 1 ≤ n κ ∧ n κ ≤ 99) (hm : MSK i3 7 (fun b => (2 ^ W - 1).testBit b)) : ∀ k : Nat,
    (∀ (w : pm_W) (N : Nat) (i4 : Int32) (u5 u6 u7 : Value), FM [] [160, 161, 162, 163, 164] w0 w → i4.toInt = N → N ≤ 100 → (∀ m : Int, 0 ≤ m → m < N → ¬ CL P W A B n m) → PS X k 292 37 [.ref 147, .int i1, .int i2, .int i3, .int i4, u5, u6, u7] [] w r w' → ∃ z : Int32, r = some (.int z) ∧ LW (CL P W A B n) z.toInt) ∧
    (∀ (w1 w : pm_W) (N a : Nat) (c : Bool) (i4 i6 : Int32) (u7 : Value), FM [] [160, 161, 162, 163, 164] w0 w1 → (∀ i j, i < 10 → j < 10 → loR w1 i j = askS A B n (2 ^ W - 1) W i j) → (∀ p, p < 10 → ovR w1 p = surS A B n (2 ^ W - 1) W p) → (∀ i j, i < 10 → j < 10 → fwR w1 i j = 0) → FM [] [161] w1 w → i4.toInt = N → N < 100 → (∀ m : Int, 0 ≤ m → m < N → ¬ CL P W A B n m) → i6.toInt = a → a ≤ P → (∀ i j, i < 10 → j < 10 → moR w i j = LAYx (rmS N) P 0 a 0 i j) → (c = true ↔ ∀ i j, i < a → j < P → askS A B n (2 ^ W - 1) W i j ≤ rmS N i j) → PS X k 292 56 [.ref 147, .int i1, .int i2, .int i3, .int i4, .int (b2i c), .int i6, u7] [] w r w' → ∃ z : Int32, r = some (.int z) ∧ LW (CL P W A B n) z.toInt) ∧
    (∀ (w1 w : pm_W) (N a b : Nat) (c : Bool) (i4 i6 i7 : Int32), FM [] [160, 161, 162, 163, 164] w0 w1 → (∀ i j, i < 10 → j < 10 → loR w1 i j = askS A B n (2 ^ W - 1) W i j) → (∀ p, p < 10 → ovR w1 p = surS A B n (2 ^ W - 1) W p) → (∀ i j, i < 10 → j < 10 → fwR w1 i j = 0) → FM [] [161] w1 w → i4.toInt = N → N < 100 → (∀ m : Int, 0 ≤ m → m < N → ¬ CL P W A B n m) → i6.toInt = a → a < P → i7.toInt = b → b ≤ P → (∀ i j, i < 10 → j < 10 → moR w i j = LAYx (rmS N) P 0 a b i j) → (c = true ↔ ∀ i j, (i < a ∧ j < P) ∨ (i = a ∧ j < b) → askS A B n (2 ^ W - 1) W i j ≤ rmS N i j) → PS X k 292 70 [.ref 147, .int i1, .int i2, .int i3, .int i4, .int (b2i c), .int i6, .int i7] [] w r w' → ∃ z : Int32, r = some (.int z) ∧ LW (CL P W A B n) z.toInt) := by
  have e100 : (100 : Int32).toInt = 100 := by decide +kernel
  intro k
  induction k using Nat.strongRecOn with
  | _ k ih =>
    match k, ih with
    | 0, _ => exact ⟨fun _ _ _ _ _ _ _ _ _ _ h => (PS_0 h).elim, fun _ _ _ _ _ _ _ _ _ _ _ _ _ _ _ _ _ _ _ _ h => (PS_0 h).elim, fun _ _ _ _ _ _ _ _ _ _ _ _ _ _ _ _ _ _ _ _ _ _ _ h => (PS_0 h).elim⟩
    | k + 1, ih =>
      refine ⟨fun w N i4 u5 u6 u7 fm h4 hN hno h => ?_, fun w1 w N a c i4 i6 u7 fm el eo ef fk h4 hN hno h6 ha hf hc h => ?_, fun w1 w N a b c i4 i6 i7 fm el eo ef fk h4 hN hno h6 ha h7 hb hf hc h => ?_⟩
      · have hS : SK w := fm.2.2.2
        have ea : al w = al w0 := al_FM fm (by decide)
        have h := U292_37 hS h
        by_cases c : 100 ≤ i4
        · rw [if_pos c] at h
          rw [Int32.le_iff_toInt_le, e100, h4] at c
          exact ⟨_, h.1, Or.inl ⟨m1i, fun m m0 m1 => hno m m0 (by omega)⟩⟩
        · rw [if_neg c] at h
          rw [Int32.le_iff_toInt_le, e100, h4] at c
          obtain ⟨q1, w2, y, h⟩ := h
          obtain ⟨a1, f1, a2, a3, a4⟩ := F285 (A := A) (B := B) (n := n) hS hu hp (by rw [ea]; exact hW) hW7 hP9 (by rw [ea]; exact hw) hm y
          have h := h a1 f1.2.2.2
          exact (ih k (Nat.lt_succ_self k)).2.1 w2 w2 N 0 true i4 0 _ (FM_trans fm (FM_mono f1 (by intro x hx; cases hx) (by decide))) a2 a3 (fun i j hi hj => (a4 i j hi hj).2) (FM_refl f1.2.2.2) h4 (by omega) hno z32 (Nat.zero_le _) (fun i j hi hj => by
            rw [(a4 i j hi hj).1]
            unfold LAYx
            rw [if_neg (by omega), if_neg (by omega)]) ⟨fun _ i j hi => absurd hi (Nat.not_lt_zero i), fun _ => rfl⟩ h
      · have hS : SK w := fk.2.2.2
        have fmk : FM [] [160, 161, 162, 163, 164] w0 w := FM_trans fm (FM_mono fk (by intro x hx; cases hx) (by decide))
        obtain ⟨_, h⟩ := U292_56 hS h
        have eP : aG w 148 i2 = al w0 (610 + 132 * u) := by rw [aG_n hp, FM_a fmk (by decide)]; rfl
        rw [eP] at h
        have next : ∀ (k' : Nat) (wj : pm_W) (u5 u6 u7 : Value), k' < k + 1 → FM [] [160, 161, 162, 163, 164] w0 wj → ¬ CL P W A B n N → PS X k' 292 37 [.ref 147, .int i1, .int i2, .int i3, .int (i4 + 1), u5, u6, u7] [] wj r w' → ∃ z : Int32, r = some (.int z) ∧ LW (CL P W A B n) z.toInt := by
          intro k' wj u5 u6 u7 hk fj hn hh
          refine (ih k' hk).1 wj (N + 1) _ _ _ _ fj (by rw [zi_inc (n := 200) (by omega) (by omega), h4]; rfl) (by omega) (fun m m0 m1 => ?_) hh
          by_cases e : m = N
          · rw [e]; exact hn
          · exact hno m m0 (by omega)
        by_cases q : al w0 (610 + 132 * u) ≤ i6
        · rw [if_pos q] at h
          rw [Int32.le_iff_toInt_le, hP, h6] at q
          have e : a = P := by omega
          rw [e] at hf hc
          cases c with
          | false =>
            rw [if_pos (by decide +kernel)] at h
            obtain ⟨k', hk, h⟩ := X175 hS h
            exact next k' w _ _ _ (by omega) fmk (fun hz => Bool.noConfusion (hc.mpr hz.1)) h
          | true =>
            rw [if_neg (by decide +kernel)] at h
            obtain ⟨q1, w2, y, h⟩ := h
            obtain ⟨f2, bb, b1, b2⟩ := EVC (R := rmS N) (A := A) (B := B) (n := n) (s := 2 ^ W - 1) (sl := 0) hS (fun i j _ _ => by unfold rmS; split <;> omega) hP9 hW7 (fun κ hκ => (hw κ hκ).2.2.2) ⟨Int.le_refl _, by omega⟩ (fun i j hi hj => by rw [lo_fm fk (by decide)]; exact el i j hi hj) (fun p hp => by rw [ov_fm fk (by decide)]; exact eo p hp) (fun i j hi hj => by rw [fw_fm fk (by decide)]; exact ef i j hi hj) hf (hc.mp rfl) y
            have h := h _ b1 f2.2.2.2
            cases bb with
            | false =>
              rw [if_pos (by decide +kernel)] at h
              obtain ⟨k', hk, h⟩ := X175 f2.2.2.2 h
              exact next k' w2 _ _ _ (by omega) (FM_trans fmk (FM_mono f2 (by intro x hx; cases hx) (by decide))) (fun hz => Bool.noConfusion (b2.mpr hz)) h
            | true =>
              rw [if_neg (by decide +kernel)] at h
              exact ⟨i4, h.1, Or.inr ⟨by omega, by omega, by rw [h4]; exact b2.mp rfl, fun m m0 m1 => hno m m0 (by omega)⟩⟩
        · rw [if_neg q] at h
          rw [Int32.le_iff_toInt_le, hP, h6] at q
          exact (ih k (Nat.lt_succ_self k)).2.2 w1 w N a 0 c i4 i6 0 fm el eo ef fk h4 hN hno h6 (by omega) z32 (Nat.zero_le _) hf ⟨fun z i j hij => hc.mp z i j (by omega) (by omega), fun z => hc.mpr (fun i j hi hj => z i j (Or.inl ⟨hi, hj⟩))⟩ h
      · have hS : SK w := fk.2.2.2
        have fmk : FM [] [160, 161, 162, 163, 164] w0 w := FM_trans fm (FM_mono fk (by intro x hx; cases hx) (by decide))
        obtain ⟨_, h⟩ := U292_70 hS h
        have eP : aG w 148 i2 = al w0 (610 + 132 * u) := by rw [aG_n hp, FM_a fmk (by decide)]; rfl
        rw [eP] at h
        by_cases q : al w0 (610 + 132 * u) ≤ i7
        · rw [if_pos q] at h
          rw [Int32.le_iff_toInt_le, hP, h7] at q
          have e : b = P := by omega
          rw [e] at hf hc
          refine (ih k (Nat.lt_succ_self k)).2.1 w1 w N (a + 1) c i4 _ _ fm el eo ef fk h4 hN hno (by rw [zi_inc (n := 40) (by omega) (by omega), h6]; rfl) (by omega) (fun i j hi hj => ?_) ⟨fun z i j hi hj => hc.mp z i j (by omega), fun z => hc.mpr (fun i j hij => z i j (by omega) (by omega))⟩ h
          rw [hf i j hi hj]
          unfold LAYx
          by_cases k1 : (i < a ∧ j < P) ∨ (i = a ∧ j < P)
          · rw [if_pos k1, if_pos (by omega)]
          · rw [if_neg k1, if_neg (show ¬ ((i < a + 1 ∧ j < P) ∨ (i = a + 1 ∧ j < 0)) by omega)]
            split <;> split <;> rfl
        · rw [if_neg q] at h
          rw [Int32.le_iff_toInt_le, hP, h7] at q
          have ix := ix10 h6 h7 (show a < 10 by omega) (show b < 10 by omega)
          have e1 : (i7 + 1).toInt = ((b + 1 : Nat) : Int) := by rw [zi_inc (n := 40) (by omega) (by omega), h7]; rfl
          have st : ∀ mv : Int32, mv.toInt = rmS N a b → (if b2i c = 0 then (PS X k 292 145 [.ref 147, .int i1, .int i2, .int i3, .int i4, .int (b2i c), .int i6, .int i7] [] (aS w 161 ((10 * i6) + i7) mv) r w') else (aI (aS w 161 ((10 * i6) + i7) mv) 160 ((10 * i6) + i7) ∧ (aI (aS w 161 ((10 * i6) + i7) mv) 161 ((10 * i6) + i7) ∧ (if (aG (aS w 161 ((10 * i6) + i7) mv) 161 ((10 * i6) + i7)) < (aG (aS w 161 ((10 * i6) + i7) mv) 160 ((10 * i6) + i7)) then (PS X k 292 145 [.ref 147, .int i1, .int i2, .int i3, .int i4, .int (b2i c), .int i6, .int i7] [] (aS w 161 ((10 * i6) + i7) mv) r w') else (PS X k 292 70 [.ref 147, .int i1, .int i2, .int i3, .int i4, .int 1, .int i6, .int (i7 + 1)] [] (aS w 161 ((10 * i6) + i7) mv) r w'))))) → ∃ z : Int32, r = some (.int z) ∧ LW (CL P W A B n) z.toInt := by
            intro mv hmv h
            have f1 : FM [] [161] w (aS w 161 ((10 * i6) + i7) mv) := FM_aS hS (by decide)
            have S1 := f1.2.2.2
            have ms := moR_s (y := mv) hS (show a < 10 by omega) (show b < 10 by omega) ix
            have lay : ∀ i j, i < 10 → j < 10 → moR (aS w 161 ((10 * i6) + i7) mv) i j = LAYx (rmS N) P 0 a (b + 1) i j := fun i j hi hj => by
              rw [ms i j hi hj, hf i j hi hj, hmv]
              unfold LAYx
              by_cases k1 : i = a ∧ j = b
              · rw [if_pos k1, if_pos (by omega), k1.1, k1.2]
              · rw [if_neg k1]
                by_cases k3 : (i < a ∧ j < P) ∨ (i = a ∧ j < b)
                · rw [if_pos k3, if_pos (by omega)]
                · rw [if_neg k3, if_neg (show ¬ ((i < a ∧ j < P) ∨ (i = a ∧ j < b + 1)) by omega)]
            have go : ∀ (k' : Nat) (c' : Bool), k' < k + 1 → (c' = true ↔ ∀ i j, (i < a ∧ j < P) ∨ (i = a ∧ j < b + 1) → askS A B n (2 ^ W - 1) W i j ≤ rmS N i j) → PS X k' 292 70 [.ref 147, .int i1, .int i2, .int i3, .int i4, .int (b2i c'), .int i6, .int (i7 + 1)] [] (aS w 161 ((10 * i6) + i7) mv) r w' → ∃ z : Int32, r = some (.int z) ∧ LW (CL P W A B n) z.toInt := fun k' c' hk hc' hh => (ih k' hk).2.2 w1 _ N a (b + 1) c' i4 i6 _ fm el eo ef (FM_trans fk f1) h4 hN hno h6 ha e1 (by omega) lay hc' hh
            cases c with
            | false =>
              rw [if_pos (by decide +kernel)] at h
              obtain ⟨k', hk, h⟩ := X145 S1 h
              exact go k' false (by omega) ⟨fun z => Bool.noConfusion z, fun z => hc.mpr (fun i j hij => z i j (by omega))⟩ h
            | true =>
              rw [if_neg (by decide +kernel)] at h
              obtain ⟨_, _, h⟩ := h
              have v1 : (aG (aS w 161 ((10 * i6) + i7) mv) 160 ((10 * i6) + i7)).toInt = askS A B n (2 ^ W - 1) W a b := by
                rw [aG_n ix]
                show loR _ a b = _
                rw [lo_fm f1 (by decide), lo_fm fk (by decide)]
                exact el a b (by omega) (by omega)
              have v2 : (aG (aS w 161 ((10 * i6) + i7) mv) 161 ((10 * i6) + i7)).toInt = rmS N a b := by
                rw [aG_n ix]
                show moR _ a b = _
                rw [ms a b (by omega) (by omega), if_pos ⟨rfl, rfl⟩, hmv]
              by_cases d : aG (aS w 161 ((10 * i6) + i7) mv) 161 ((10 * i6) + i7) < aG (aS w 161 ((10 * i6) + i7) mv) 160 ((10 * i6) + i7)
              · rw [if_pos d] at h
                rw [Int32.lt_iff_toInt_lt, v1, v2] at d
                obtain ⟨k', hk, h⟩ := X145 S1 h
                exact go k' false (by omega) ⟨fun z => Bool.noConfusion z, fun z => by have := z a b (Or.inr ⟨rfl, by omega⟩); omega⟩ h
              · rw [if_neg d] at h
                rw [Int32.lt_iff_toInt_lt, v1, v2] at d
                refine go k true (by omega) ⟨fun _ i j hij => ?_, fun _ => rfl⟩ h
                by_cases k1 : i = a ∧ j = b
                · rw [k1.1, k1.2]; omega
                · exact hc.mp rfl i j (by omega)
          by_cases c2 : i6 = i7
          · rw [if_pos c2] at h
            have eab : a = b := by rw [c2, h7] at h6; omega
            exact st 0 (by unfold rmS; rw [if_pos eab, z32]) (h.2 _ rfl)
          · rw [if_neg c2] at h
            have eab : a ≠ b := fun e => c2 (Int32.toInt_inj.mp (by rw [h6, h7, e]))
            exact st i4 (by unfold rmS; rw [if_neg eab, h4]) (h.2 _ rfl)
/-- least -/
theorem RC_25 (h3 : RL3 w) (h1 : PS X k 183 0 [.ref 0, .int p1, pm_dead] [] w r w1) (h2 : PS X k2 292 0 [.ref 147, .int p1, pm_dead, pm_dead, pm_dead, pm_dead, pm_dead, pm_dead] [] w1 r2 w2) : r2 = r := by
  have hS := h3.1.1
  have hT := h3.1.2.1
  obtain ⟨⟨r1, r2', _⟩, t1, _⟩ := id hT
  cases k with
  | zero => exact (PS_0 h1).elim
  | succ k =>
    cases k2 with
    | zero => exact (PS_0 h2).elim
    | succ k2 =>
      obtain ⟨q1, wq, h1a, h1n, h1r⟩ := U183_0 hS h1
      obtain ⟨ew, hc⟩ := F60 (V := (al w 0).toInt.toNat) hS (by rw [t1]; omega) (by omega) h1a
      subst wq
      rcases hc with ⟨hn, hout⟩ | ⟨u, hu, huV, hr⟩
      · obtain ⟨a1, a2⟩ := h1n hn hS
        subst w1
        have h2 := use_p hS (U292_0 hS h2) (fun _ _ z => F200n (m := 0) (L := (al w 0).toInt.toNat) hS z32 (by omega) (by omega) z)
        have h2 := ifb_f hout h2
        rw [a1, h2.1]
      · have h1 := h1r _ hr hS
        obtain ⟨u1, g0, gw, _, _, _, _, g6⟩ := VT hS hT huV
        obtain ⟨_, _, _, v6⟩ := VR hS u1
        obtain ⟨v1, v1', v3, v2, v4⟩ := VA_v h3.2 huV
        obtain ⟨x1, x2, x3⟩ := VA_w h3.2 huV
        have p128 : 2 ^ Wof (al w) u ≤ 128 := Nat.le_trans (Nat.pow_le_pow_right (by decide) x2) (by decide)
        have p1' : 1 ≤ 2 ^ Wof (al w) u := Nat.one_le_two_pow
        obtain ⟨q4, w5, y5, hQ⟩ := h1
        cases k with
        | zero => exact (PS_0 y5).elim
        | succ k =>
          obtain ⟨q6, w6, y6, h6⟩ := U184_0 hS y5
          obtain ⟨b1, b2, b3, b4, b5⟩ := F160 (W := Wof (al w) u) (wv := fun κ => wtP (al w) u κ 3) hS (by rw [v6]; omega) (by omega) (by rw [gw]; exact x1) x2 (fun κ hκ => by
            rw [show 5 + 5 * u + 4 = 9 + 5 * u by omega, g6 _ (by omega)]
            unfold wtP
            rw [show 712 + 132 * u + (4 * κ + 3) = 712 + 132 * u + 4 * κ + 3 by omega]) (fun κ hκ => by
            have q := x3 κ hκ
            exact ⟨q.2.2.2.2.2.2.2.1, q.2.2.2.2.2.2.2.2⟩) y6
          have S6 : SK w6 := b2.2.2.2
          have b2' : FM [(68, 0), (68, 7)] [74, 77] w w6 := FM_mono b2 (fun _ h => h) (by decide)
          have hV : WSH w6 (Pof (al w) u) (Wof (al w) u) (wAf (al w) u) (wBf (al w) u) (wNf (al w) u) := LOOK_V h3 (FM_refl hS) huV b2' b3 (by rw [b3, FM_i b2 (by simp <;> omega), g0]; exact v3)
          obtain ⟨f5, zc, c1, c2⟩ := F184_13 hV b4 k 0 w6 (-1) 100 0 _ (FM_refl S6) z32 (by omega) (by rw [m1i]; exact Int.le_refl _) (by decide +kernel) (by decide +kernel) (by decide +kernel) (Or.inl m1i) (Or.inl (by decide +kernel)) (h6 b1 S6)
          have S5 : SK w5 := f5.2.2.2
          have hW := hQ _ c1 S5
          rw [hW.2] at h2
          have e5 : al w5 = al w := by rw [al_FM f5 (by decide), al_FM b2 (by decide)]
          have h2 := use_p S5 (U292_0 S5 h2) (fun _ _ z => F200n (m := 0) (L := (al w 0).toInt.toNat) S5 z32 (by rw [e5]; omega) (by omega) z)
          have h2 := ifb_t (by omega) h2
          have h2 := use_p S5 h2 (fun _ _ z => F217v S5 hu u1 z)
          obtain ⟨_, q8, w8, y8, h2⟩ := h2
          obtain ⟨d1, f8, _⟩ := F229 S5 y8
          have S8 : SK w8 := f8.2.2.2
          have e8 : al w8 = al w := by rw [al_FM f8 (by decide), e5]
          have h2 := h2 d1 S8
          have ep := plV hu u1
          have eW : (aG w5 148 (610 + 132 * p1 + 1)).toInt = Wof (al w) u := by
            rw [aG_n (m := 611 + 132 * u) (by rw [zi_add ep o32 (by omega) (by omega)]; omega)]
            show (al w5 _).toInt = _
            rw [e5]
            exact x1
          have em : ((1 : Int32) <<< (aG w5 148 (610 + 132 * p1 + 1) &&& 31) - 1).toInt = ((2 ^ Wof (al w) u - 1 : Nat) : Int) := by
            rw [zi_sub (sh_pow eW x2) o32 (by omega) (by omega)]
            omega
          obtain ⟨zr, d2, d3⟩ := (F292_l (w0 := w8) (A := wAf (al w) u) (B := wBf (al w) u) (n := wNf (al w) u) u1 ep (by rw [e8]; exact v3) v1 (by rw [e8]; exact x1) x2 (fun κ hκ => by
            obtain ⟨y0, y0', y1, y1', _, y2, y2', _⟩ := x3 κ hκ
            rw [e8]
            unfold wAf wBf wNf
            omega) (MSK_set em (by omega)) _).1 w8 0 0 _ _ _ (FM_refl S8) z32 (by omega) (fun m m0 m1 => by omega) h2
          rw [hW.1, d2, Int32.toInt_inj.mp (LW_uq d3 c2)]
end JDA
