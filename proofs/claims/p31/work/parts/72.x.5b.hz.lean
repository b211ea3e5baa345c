/-! ===== bars ===== -/
section HZB
variable {X : pm_X} {k k2 : Nat} {w0 w w1 w2 w3 w4 w' : pm_W} {r r2 q0 q1 q2 : Option Value} {p p1 p2 p3 p4 p5 p6 i1 i2 i3 sl x y z z1 z2 : Int32} {i v j m u u2 P t s b Q B rr len o3 N K W κ c : Nat} {n : Int32} {V V' D G G1 G2 : Nat → Int32} {s0 s1 s2 t1 t2 : SN} {a : Nat → Int32} {E E' : Nat → Nat → Bool}
theorem RCH_cg (h : ∀ a, a < P → ∀ b, E' a b = E a b) : ∀ k b, RCH E' P s k b = RCH E P s k b := by
  intro k
  induction k with
  | zero => intro b; rfl
  | succ k ih =>
    intro b
    rw [RCH_s, RCH_s, ih b]
    congr 1
    exact anN_cg P (fun a ha => by rw [ih a, h a ha])
theorem F275_l (hS : SK w) (hu : u ≤ 1) (hp : p1.toInt = (610 + 132 * u : Nat)) (hP : (al w (610 + 132 * u)).toInt = P) (hP9 : P ≤ 9) (hs : s < P) (hE : E = edR P (fun k => al w (610 + 132 * u + k)) (dR w) n) : ∀ k : Nat,
    (∀ (i4 i5 : Int32) (u6 u7 : Value) (S W : Nat → Bool), MSK i4 9 S → MSK i5 9 W → S s = true → (∀ b, b < 9 → S b = true → ∃ j, RCH E P s j b = true) → (∀ b, b < 9 → W b = true → S b = true) → (∀ a b, a < P → b < P → W a = true → E a b = true → S b = true) → PS X k 275 8 [.ref 147, .int p1, .int p2, .int n, .int i4, .int i5, u6, u7] [] w r w' → (∃ z, r = some (.int z) ∧ MSK z 9 (RCH E P s P)) ∧ w' = w) ∧
    (∀ (t : Nat) (i4 i5 i6 : Int32) (u7 : Value) (S W : Nat → Bool), i6.toInt = t → t ≤ P → MSK i4 9 S → MSK i5 9 W → S s = true → (∀ b, b < 9 → S b = true → ∃ j, RCH E P s j b = true) → (∀ b, b < 9 → W b = true → S b = true) → (∀ a b, a < t → b < P → W a = true → E a b = true → S b = true) → PS X k 275 22 [.ref 147, .int p1, .int p2, .int n, .int i4, .int i5, .int i6, u7] [] w r w' → (∃ z, r = some (.int z) ∧ MSK z 9 (RCH E P s P)) ∧ w' = w) ∧
    (∀ (t j : Nat) (i4 i5 i6 i7 : Int32) (S W : Nat → Bool), i6.toInt = t → t < P → i7.toInt = j → j ≤ P → MSK i4 9 S → MSK i5 9 W → S s = true → (∀ b, b < 9 → S b = true → ∃ j, RCH E P s j b = true) → (∀ b, b < 9 → W b = true → S b = true) → (∀ a b, a < t → b < P → W a = true → E a b = true → S b = true) → (∀ b, b < j → W t = true → E t b = true → S b = true) → PS X k 275 36 [.ref 147, .int p1, .int p2, .int n, .int i4, .int i5, .int i6, .int i7] [] w r w' → (∃ z, r = some (.int z) ∧ MSK z 9 (RCH E P s P)) ∧ w' = w) := by
  have eP : aG w 148 p1 = al w (610 + 132 * u) := aG_n (m := 610 + 132 * u) hp
  intro k
  induction k with
  | zero => exact ⟨fun _ _ _ _ _ _ _ _ _ _ _ _ h => (PS_0 h).elim, fun _ _ _ _ _ _ _ _ _ _ _ _ _ _ _ h => (PS_0 h).elim, fun _ _ _ _ _ _ _ _ _ _ _ _ _ _ _ _ _ _ _ h => (PS_0 h).elim⟩
  | succ k ih =>
    obtain ⟨ih8, ih22, ih36⟩ := ih
    refine ⟨fun i4 i5 u6 u7 S W m4 m5 hs1 hso hws hcl h => ?_, fun t i4 i5 i6 u7 S W h6 ht m4 m5 hs1 hso hws hcl h => ?_, fun t j i4 i5 i6 i7 S W h6 ht h7 hj m4 m5 hs1 hso hws hcl hcl2 h => ?_⟩
    · have h := U275_8 hS h
      by_cases c : i4 = i5
      · rw [if_pos c] at h
        rw [← c] at m5
        have eq : ∀ b, b < 9 → S b = W b := fun b hb => MSK_in m4 m5 (by decide) hb
        refine ⟨⟨i4, h.1, MSK_cg m4 (fun b hb => ?_)⟩, h.2⟩
        exact (RCH_cl hs (fun a b he => by rw [hE] at he; exact edR_P he) hs1 hso (fun a b ha hb hsa he => hcl a b ha hb (by rw [← eq a (by omega)]; exact hsa) he) (by omega) hb).symm
      · rw [if_neg c] at h
        exact ih22 0 i4 i4 0 u7 S S z32 (Nat.zero_le _) m4 m4 hs1 hso (fun b _ hb => hb) (fun a b ha => absurd ha (Nat.not_lt_zero a)) h
    · obtain ⟨_, h⟩ := U275_22 hS h
      rw [eP] at h
      by_cases c : al w (610 + 132 * u) ≤ i6
      · rw [if_pos c] at h
        rw [Int32.le_iff_toInt_le, hP, h6] at c
        have e : t = P := by omega
        rw [e] at hcl
        exact ih8 i4 i5 _ _ S W m4 m5 hs1 hso hws hcl h
      · rw [if_neg c] at h
        rw [Int32.le_iff_toInt_le, hP, h6] at c
        exact ih36 t 0 i4 i5 i6 0 S W h6 (by omega) z32 (Nat.zero_le _) m4 m5 hs1 hso hws hcl (fun b hb => absurd hb (Nat.not_lt_zero b)) h
    · obtain ⟨_, h⟩ := U275_36 hS h
      rw [eP] at h
      by_cases c : al w (610 + 132 * u) ≤ i7
      · rw [if_pos c] at h
        rw [Int32.le_iff_toInt_le, hP, h7] at c
        have e : j = P := by omega
        rw [e] at hcl2
        refine ih22 (t + 1) i4 i5 _ _ S W (by rw [zi_inc (n := 40) (by omega) (by omega), h6]; rfl) (by omega) m4 m5 hs1 hso hws (fun a b ha hb hw he => ?_) h
        by_cases e2 : a = t
        · rw [e2] at hw he; exact hcl2 b hb hw he
        · exact hcl a b (by omega) hb hw he
      · rw [if_neg c] at h
        rw [Int32.le_iff_toInt_le, hP, h7] at c
        have e1 : (i7 + 1).toInt = ((j + 1 : Nat) : Int) := by rw [zi_inc (n := 40) (by omega) (by omega), h7]; rfl
        have tb : ((i4 >>> (i6 &&& 31)) &&& 1) = 1 ↔ S t = true := MSK_t m4 h6 (by omega) (by decide)
        -- nothing new
        have skip : (W t = true → E t j = true → S j = true) → ∀ i4', MSK i4' 9 S → PS X k 275 36 [.ref 147, .int p1, .int p2, .int n, .int i4', .int i5, .int i6, .int (i7 + 1)] [] w r w' → (∃ z, r = some (.int z) ∧ MSK z 9 (RCH E P s P)) ∧ w' = w := by
          intro hj2 i4' m4' h
          refine ih36 t (j + 1) i4' i5 i6 _ S W h6 ht e1 (by omega) m4' m5 hs1 hso hws hcl (fun b hb hw he => ?_) h
          by_cases e2 : b = j
          · rw [e2] at he ⊢; exact hj2 hw he
          · exact hcl2 b (by omega) hw he
        by_cases c1 : ((i4 >>> (i6 &&& 31)) &&& 1) = 1
        · rw [if_pos c1] at h
          have hst := tb.mp c1
          by_cases c2 : i6 = i7
          · rw [if_pos c2] at h
            refine skip (fun _ he => ?_) _ (MSK_o0 m4) h
            have et : j = t := by rw [c2, h7] at h6; omega
            rw [et]; exact hst
          · rw [if_neg c2] at h
            have et : j ≠ t := fun e => c2 (Int32.toInt_inj.mp (by rw [h6, h7, e]))
            have h := use_p hS h (fun _ _ y => F231n hS hp hu h6 h7 (by omega) (by omega) y)
            by_cases c3 : rmI (fun k => al w (610 + 132 * u + k)) (dR w) t j < n
            · rw [if_pos c3] at h
              rw [Int32.lt_iff_toInt_lt] at c3
              refine skip (fun _ he => ?_) _ (MSK_o0 m4) h
              rw [hE] at he
              unfold edR at he
              rw [decide_eq_false (show ¬ n.toInt ≤ _ by omega), Bool.and_false, Bool.and_false] at he
              exact Bool.noConfusion he
            · rw [if_neg c3] at h
              rw [Int32.lt_iff_toInt_lt] at c3
              have he : E t j = true := by
                rw [hE]
                unfold edR
                rw [decide_eq_true (show j < P by omega), decide_eq_false et, decide_eq_true (show n.toInt ≤ _ by omega)]
                rfl
              refine ih36 t (j + 1) _ i5 i6 _ (fun q => S q || decide (q = j)) W h6 ht e1 (by omega) (MSK_ob m4 h7 (by omega) (by decide)) m5 (by show (S s || _) = true; rw [hs1]; rfl) (fun b hb hsb => ?_) (fun b hb hw => by show (S b || _) = true; rw [hws b hb hw]; rfl) (fun a b ha hb hw he => by show (S b || _) = true; rw [hcl a b ha hb hw he]; rfl) (fun b hb hw he => ?_) h
              · have hsb : (S b || decide (b = j)) = true := hsb
                rw [Bool.or_eq_true] at hsb
                rcases hsb with hsb | hsb
                · exact hso b hb hsb
                · rw [of_decide_eq_true hsb]
                  obtain ⟨k', hk'⟩ := hso t (by omega) hst
                  refine ⟨k' + 1, ?_⟩
                  rw [RCH_s, Bool.or_eq_true]
                  exact Or.inr ((anN_t P).mpr ⟨t, ht, by rw [hk', he]; rfl⟩)
              · show (S b || decide (b = j)) = true
                by_cases e2 : b = j
                · rw [decide_eq_true e2, Bool.or_true]
                · rw [hcl2 b (by omega) hw he]; rfl
        · rw [if_neg c1] at h
          refine skip (fun hw _ => ?_) _ (MSK_o0 m4) h
          exact absurd (tb.mpr (hws t (by omega) hw)) c1
theorem F275 (hS : SK w) (hu : u ≤ 1) (hp : p1.toInt = (610 + 132 * u : Nat)) (hP : (al w (610 + 132 * u)).toInt = P) (hP9 : P ≤ 9) (h2 : p2.toInt = s) (hs : s < P) (h : PS X k 275 0 [.ref 147, .int p1, .int p2, .int n, pm_dead, pm_dead, pm_dead, pm_dead] [] w r w') : (∃ z, r = some (.int z) ∧ MSK z 9 (RCH (edR P (fun k => al w (610 + 132 * u + k)) (dR w) n) P s P)) ∧ w' = w := by
  cases k with
  | zero => exact (PS_0 h).elim
  | succ k =>
    exact (F275_l hS hu hp hP hP9 hs rfl k).1 _ 0 _ _ (fun q => decide (q = s)) (fun _ => false) (MSK_b h2 (by omega) (by decide)) MSK_0 (decide_eq_true rfl) (fun b _ hb => ⟨0, hb⟩) (fun b _ hb => Bool.noConfusion hb) (fun a b _ _ hw => Bool.noConfusion hw) (U275_0 hS h)
/-- bars -/
theorem RC_18 (h3 : RL3 w) (h1 : PS X k 140 0 [.ref 0, .int p1, .int p2, .int p3, .int p4, pm_dead, pm_dead] [] w r w1) (h2 : PS X k2 274 0 [.ref 147, .int p1, .int p2, .int p3, .int p4, pm_dead, pm_dead] [] w1 r2 w2) : r2 = r := by
  have hS := h3.1.1
  cases k with
  | zero => exact (PS_0 h1).elim
  | succ k =>
    cases k2 with
    | zero => exact (PS_0 h2).elim
    | succ k2 =>
      obtain ⟨q1, w3, z, h1⟩ := U140_0 hS h1
      obtain ⟨k', q2, z2, alt⟩ := F141 h3 z
      obtain ⟨f1, _⟩ := F98 h3 z2
      have S3 : SK w3 := f1.2.2.2
      have ea := FM_al f1
      have none0 : (q2 = some (.int 0) ∨ ∃ u : Nat, p1.toInt = u ∧ ¬ (0 ≤ p4.toInt ∧ p4.toInt < (Wof (al w) u : Nat))) → q1 = some (.int 0) → r2 = r := by
        intro hq h0
        have h1 := h1 _ h0 S3
        rw [if_pos rfl] at h1
        rw [h1.2] at h2
        obtain ⟨q6, w6, y6, h2⟩ := U274_0 S3 h2
        obtain ⟨S6, e6, alt2⟩ := F265 h3 z2 S3 ea y6
        have : q6 = some (.int 0) := by
          rcases alt2 with ⟨_, x⟩ | ⟨u, t1, t2, b1, b3, b8⟩
          · exact x
          · rcases hq with x | ⟨u', x1, x2⟩
            · rw [b1] at x; exact absurd x i10
            · have e : u' = u := by have := b3.1; omega
              rw [e] at x2
              rw [b8, decide_eq_false x2]; rfl
        have h2 := h2 _ this S6
        rw [if_pos rfl] at h2
        rw [h2.1, h1.1]
      rcases alt with ⟨a0, a1⟩ | ⟨a1, u, s1, a2, a3, a4⟩
      · exact none0 (Or.inl a0) a1
      · by_cases c : 0 ≤ p4.toInt ∧ p4.toInt < (Wof (al w) u : Nat)
        · rw [decide_eq_true c] at a4
          have h1 := h1 _ a4 S3
          rw [if_neg (by decide +kernel)] at h1
          have hu := a2.2.1
          obtain ⟨v1, _, v3, v2, v4⟩ := VA_v h3.2 hu
          have u1 : u ≤ 1 := by have := h3.1.2.1.1.2.1; omega
          have okv := okV_n u1
          obtain ⟨x1, x2, x3⟩ := VA_w h3.2 hu
          obtain ⟨κ, hκ⟩ : ∃ κ : Nat, p4.toInt = κ := ⟨p4.toInt.toNat, by omega⟩
          have hκ7 : κ < 7 := by omega
          obtain ⟨y0, y0', y1, y1', _, y2, y2', _⟩ := x3 κ (by omega)
          obtain ⟨g1, g2, g3, g4⟩ := CVL h3 hu f1 a3
          rw [g3] at g1
          rw [g3] at h1
          have hd : dA w3 33 = s1.1 := a3.2.2.1
          obtain ⟨A, hA⟩ : ∃ A : Nat, (wtP (al w) u κ 0).toInt = A := ⟨(wtP (al w) u κ 0).toInt.toNat, by omega⟩
          obtain ⟨B, hB⟩ : ∃ B : Nat, (wtP (al w) u κ 1).toInt = B := ⟨(wtP (al w) u κ 1).toInt.toNat, by omega⟩
          have h1 := use_p S3 h1 (fun _ _ y => F65w h3 f1 hu hκ hκ7 (c := 1) o32 (by decide) y)
          have h1 := use_p S3 h1 (fun _ _ y => F65w h3 f1 hu hκ hκ7 (c := 2) two32 (by decide) y)
          obtain ⟨q5, w5, y5, h5⟩ := h1
          obtain ⟨⟨zc, z3, z4⟩, z5⟩ := F142 S3 (by decide +kernel) okv g3 g1 v1 hB (by omega) y5
          have h1 := h5 _ z3 (by rw [z5]; exact S3)
          rw [z5] at h1
          have h1 := use_p S3 h1 (fun _ _ y => F65w h3 f1 hu hκ hκ7 (c := 0) z32 (by decide) y)
          have h1 := use_p S3 h1 (fun _ _ y => F89m S3 z4 hA (by omega) (by decide) y)
          rw [hd] at z4 h1
          have z4 : MSK zc 9 (RCH (edR (Pof (al w) u) (Vof (al w) u) s1.1 (wtP (al w) u κ 2)) (Pof (al w) u) B (Pof (al w) u)) := MSK_cg z4 (fun b _ => RCH_cg (fun a ha b => (edR_cg v1 (fun q hq => (g4 q hq).symm) (by omega))) _ b)
          have e4 : RCH (edR (Pof (al w) u) (vcl w3 (5 + 5 * u)) s1.1 (wtP (al w) u κ 2)) (Pof (al w) u) B (Pof (al w) u) A = RCH (edR (Pof (al w) u) (Vof (al w) u) s1.1 (wtP (al w) u κ 2)) (Pof (al w) u) B (Pof (al w) u) A := RCH_cg (fun a ha b => (edR_cg v1 (fun q hq => g4 q hq) (by omega))) _ A
          rw [e4] at h1
          have cl : w1 = w3 ∧ r = some (.int (if RCH (edR (Pof (al w) u) (Vof (al w) u) s1.1 (wtP (al w) u κ 2)) (Pof (al w) u) B (Pof (al w) u) A = true then -1 else zc)) := by
            cases hh : RCH (edR (Pof (al w) u) (Vof (al w) u) s1.1 (wtP (al w) u κ 2)) (Pof (al w) u) B (Pof (al w) u) A with
            | false =>
              rw [hh, if_pos (by decide +kernel)] at h1
              rw [if_neg (by decide)]
              exact ⟨h1.2, h1.1⟩
            | true =>
              rw [hh, if_neg (by decide +kernel)] at h1
              rw [if_pos rfl]
              exact ⟨h1.2, h1.1⟩
          obtain ⟨ew, er⟩ := cl
          rw [ew] at h2
          obtain ⟨q6, w6, y6, h2⟩ := U274_0 S3 h2
          obtain ⟨S6, e6, alt2⟩ := F265 h3 z2 S3 ea y6
          rcases alt2 with ⟨x0, _⟩ | ⟨u', t1, t2, b1, ⟨c1, c2, c3, c4, c5, c6, c7⟩, b8⟩
          · rw [a1] at x0; exact absurd x0 i10
          · have eu : u' = u := by have := a2.1; omega
            subst eu
            rw [decide_eq_true c] at b8
            have h2 := h2 _ b8 S6
            rw [if_neg (by decide +kernel)] at h2
            have ed : dR w6 = s1.1 := by
              have x1 : dA w3 33 = t1.1 := c5.2.2.1
              rw [show dR w6 = t2.1 from c6.1, c4.1, ← x1, hd]
            have hp := plV c1 c3
            have h2 := use_p S6 h2 (fun _ _ y => F217v S6 c1 c3 y)
            have h2 := use_p S6 h2 (fun _ _ y => F224w (c := 1) S6 c3 hp hκ hκ7 o32 (by decide) y)
            have h2 := use_p S6 h2 (fun _ _ y => F224w (c := 2) S6 c3 hp hκ hκ7 two32 (by decide) y)
            rw [e6] at h2
            obtain ⟨q7, w7, y7, h7⟩ := h2
            obtain ⟨⟨zr, d1, d2⟩, d3⟩ := F275 S6 c3 hp (by rw [e6]; exact v3) v1 hB (by omega) y7
            have h2 := h7 _ d1 (by rw [d3]; exact S6)
            rw [d3] at h2
            have h2 := use_p S6 h2 (fun _ _ y => F224w (c := 0) S6 c3 hp hκ hκ7 z32 (by decide) y)
            rw [e6] at h2
            rw [ed, e6] at d2
            have ez : zr = zc := MSK_uq d2 z4 (fun b _ => rfl)
            have tb := MSK_t z4 hA (by omega) (by decide)
            rw [ez] at h2
            rw [er]
            by_cases c9 : ((zc >>> (wtP (al w) u' κ 0 &&& 31)) &&& 1) = 1
            · rw [if_pos c9] at h2
              rw [if_pos (tb.mp c9)]
              exact h2.1
            · rw [if_neg c9] at h2
              rw [if_neg (fun q => c9 (tb.mpr q))]
              exact h2.1
        · rw [decide_eq_false c] at a4
          exact none0 (Or.inr ⟨u, a2.1, c⟩) a4
end HZB
