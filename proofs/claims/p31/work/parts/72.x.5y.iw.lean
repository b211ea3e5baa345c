/-! ===== shilling, worth, asked on both sides ===== -/
section IWS
variable {X : pm_X} {k k2 : Nat} {w0 w w1 w2 w3 w4 w5 w6 wj w' : pm_W} {r r2 q0 q1 q2 : Option Value} {p1 p2 p3 p4 p5 i0 i1 i2 i3 i4 i5 i6 i7 i8 z z1 z2 x y : Int32} {i v j m u P t s b Q I J K T p W M N κ : Nat} {R R' C ask c : Nat → Nat → Int} {e g d sl : Int} {A B : Nat → Nat} {n o : Nat → Int} {S : Nat → Bool} {a : Nat → Int32} {wv : Nat → Int32} {s1 t1 t2 : SN}
theorem sub_eq {a b c d : Int32} (h1 : a.toInt = c.toInt) (h2 : b.toInt = d.toInt) : a - b = c - d := by rw [Int32.toInt_inj.mp h1, Int32.toInt_inj.mp h2]
/-- shilling -/
theorem RC_22 (h3 : RL3 w) (hmf : gI w 147 31 = -1) (h1 : PS X k 177 0 [.ref 0, .int p1, .int p2, .int p3] [] w r w1) (h2 : PS X k2 290 0 [.ref 147, .int p1, .int p2, .int p3, pm_dead] [] w1 r2 w2) : r2 = r := by
  have hS := h3.1.1
  cases k with
  | zero => exact (PS_0 h1).elim
  | succ k =>
    cases k2 with
    | zero => exact (PS_0 h2).elim
    | succ k2 =>
      obtain ⟨q1, w3, z, h1⟩ := U177_0 hS h1
      cases k with
      | zero => exact (PS_0 z).elim
      | succ k =>
        obtain ⟨q2, w4, zz, hz⟩ := U173_0 hS z
        obtain ⟨f1, alt⟩ := F98 h3 zz
        have S4 : SK w4 := f1.2.2.2
        have ea := FM_al f1
        rcases alt with ⟨u, s1, a1, a2, a3⟩ | ⟨a1, a2⟩
        · have hz := hz _ a1 S4
          rw [if_neg (by decide +kernel)] at hz
          obtain ⟨q4, w5, y5, h5⟩ := hz
          have hL := LKC h3 f1 a2 a3 y5
          obtain ⟨b1, u', s1', b2, b3, b4, b5, b6, b7, b8, b9, b10, b11⟩ := LK5_c h3 zz a1 y5
          have eu : u' = u := by have := a2.1; omega
          subst eu
          have S5 : SK w5 := b7.2.2.2
          obtain ⟨d1, d2⟩ := h5 b1 S5
          rw [d2] at h1
          have h1 := h1 _ d1 S5
          rw [if_neg (by decide +kernel), b8, b10] at h1
          have e5 : al w5 = al w := by rw [al_FM b7 (by decide), ea]
          have hm5 : gI w5 147 31 = gI w 147 31 := by rw [FM_i b7 (by simp), FM_i f1 (by simp)]
          obtain ⟨_, _, _, _, hv4⟩ := VA_v h3.2 b3
          obtain ⟨q7, w7, y7, h7⟩ := h1
          obtain ⟨f7, z7, m1, m2⟩ := F178 S5 hL rfl ⟨by omega, by omega⟩ y7
          have S7 := f7.2.2.2
          obtain ⟨q8, w8, y8, h8⟩ := h7 _ m1 S7
          obtain ⟨f8, z8, m3, m4⟩ := F178 (sl := 0) S7 (LKw_fm hL f7) z32 ⟨by omega, by omega⟩ y8
          rw [rmW_fm f7] at m4
          have S8 := f8.2.2.2
          have hW := h8 _ m3 S8
          rw [hW.2] at h2
          have f9 := FM_trans f7 f8
          have e9 : al w8 = al w := by rw [al_FM f9 (by decide), e5]
          obtain ⟨q6, w6, y6, h2⟩ := U290_0 S8 h2
          obtain ⟨f6, e6, alt2⟩ := LOAD3 h3 zz S8 e9 y6
          have S6 : SK w6 := f6.2.2.2
          have hm6 : gI w6 147 31 = gI w 147 31 := by rw [FM_i f6 (by simp), FM_i f9 (by simp), hm5]
          rcases alt2 with ⟨gg1, _⟩ | ⟨u2, t1, t2, _, gg2, hLD⟩
          · rw [a1] at gg1; exact absurd gg1 i10
          · have eu : u2 = u' := by have := hLD.1; omega
            subst eu
            have hK := b11 w6 t1 t2 hLD e6 hm6
            have hc1 := hLD.1
            have hc3 := hLD.2.2.1
            have hp := plV hc1 hc3
            have h2 := h2 _ gg2 S6
            rw [if_neg (by decide +kernel)] at h2
            obtain ⟨_, h2⟩ := use_p S6 h2 (fun _ _ y => F217v S6 hc1 hc3 y)
            have es : aG w6 148 (610 + 132 * p1 + 2) = al w (612 + 132 * u2) := by
              rw [aG_n (m := 612 + 132 * u2) (by rw [zi_add hp two32 (by omega) (by omega)]; omega)]
              show al w6 _ = _
              rw [e6]
            rw [es] at h2
            obtain ⟨x9, w9, f10, n1, h2⟩ := F287v S6 hK.2.1 hp (by rw [e6]; exact hL.2.2.2.2) rfl ⟨by omega, by omega⟩ h2
            have S9 := f10.2.2.2
            have e10 : al w9 = al w := by rw [al_FM f10 (by decide), e6]
            obtain ⟨x10, w10, f11, n2, h2⟩ := F287v (sl := 0) S9 (WSR_fm hK.2.1 f10 (by decide) (by decide)) hp (by rw [e10]; exact hL.2.2.2.2) z32 ⟨by omega, by omega⟩ h2
            rw [e6, hm6, hmf, m1i] at n1
            rw [e10, rmA_fm f10 (by decide) (by decide), FM_i f10 (by simp), FM_i f10 (by simp), hm6, hmf, m1i] at n2
            rw [bstF_cg (fun s => (can_2 hK s).symm)] at n1 n2
            rw [h2.1, hW.1, sub_eq (n1.trans m2.symm) (n2.trans m4.symm)]
        · have hz := hz _ a1 S4
          rw [if_pos rfl] at hz
          have h1 := h1 _ hz.1 (by rw [hz.2]; exact S4)
          rw [if_pos rfl, hz.2] at h1
          rw [h1.2] at h2
          obtain ⟨q6, w6, y6, h2⟩ := U290_0 S4 h2
          obtain ⟨g1, S6⟩ := no_173 h3 zz a1 y6
          have h2 := h2 _ g1 S6
          rw [if_pos rfl] at h2
          rw [h2.1, h1.1]
/-- what the reference's areTwo changes -/
theorem F245m (hS : SK w) (hA : RA (al w)) (hV : VAa (al w)) (h : PS X k 245 0 [.ref 147, .int p1, .int p2, .int p3, .int p4, .int p5] [] w r w') : gI w' 147 31 = gI w 147 31 ∧ gI w' 147 32 = gI w 147 32 := by
  cases k with
  | zero => exact (PS_0 h).elim
  | succ k =>
    obtain ⟨q6, w6, y6, h⟩ := U245_0 hS h
    obtain ⟨f2, alt2⟩ := F246 hS hA hV y6
    have S6 : SK w6 := f2.2.2.2
    have e6 : al w6 = al w := by funext q; unfold al; rw [FM_a f2 (by simp)]
    have g1 : gI w6 147 31 = gI w 147 31 := FM_i f2 (by simp)
    have g2 : gI w6 147 32 = gI w 147 32 := FM_i f2 (by simp)
    rcases alt2 with ⟨u, s, b2, b3, b4⟩ | ⟨b2, _⟩
    · have h := h _ b2 S6
      rw [if_neg (by decide +kernel)] at h
      have b4' := b3.1
      have b5 := b3.2.1
      have u1 : u ≤ 1 := by have := hA.2.1; omega
      obtain ⟨v1, _, v3, v2, v4⟩ := VA_v hV b5
      have h := use_p S6 h (fun _ _ y => F217v S6 b4' u1 y)
      have h := use_p S6 h (fun _ _ y => F221n (m := 610 + 132 * u) (L := Pof (al w) u) S6 (plV b4' u1) (by rw [e6]; exact v3) (by omega) y)
      by_cases c : 0 ≤ p4.toInt ∧ p4.toInt < (Pof (al w) u : Nat)
      · have h := ifb_t c h
        have h := use_p S6 h (fun _ _ y => F217v S6 b4' u1 y)
        have h := use_p S6 h (fun _ _ y => F221n (m := 610 + 132 * u) (L := Pof (al w) u) S6 (plV b4' u1) (by rw [e6]; exact v3) (by omega) y)
        by_cases c2 : 0 ≤ p5.toInt ∧ p5.toInt < (Pof (al w) u : Nat)
        · have h := ifb_t c2 h
          rw [h.2]; exact ⟨g1, g2⟩
        · have h := ifb_f c2 h
          rw [h.2]; exact ⟨g1, g2⟩
      · have h := ifb_f c h
        rw [h.2]; exact ⟨g1, g2⟩
    · have h := h _ b2 S6
      rw [if_pos rfl] at h
      rw [h.2]; exact ⟨g1, g2⟩
/-- worth -/
theorem RC_23 (h3 : RL3 w) (hmf : gI w 147 31 = -1) (h1 : PS X k 179 0 [.ref 0, .int p1, .int p2, .int p3, .int p4, pm_dead] [] w r w1) (h2 : PS X k2 291 0 [.ref 147, .int p1, .int p2, .int p3, .int p4, pm_dead] [] w1 r2 w2) : r2 = r := by
  have hS := h3.1.1
  cases k with
  | zero => exact (PS_0 h1).elim
  | succ k =>
    cases k2 with
    | zero => exact (PS_0 h2).elim
    | succ k2 =>
      obtain ⟨q1, w3, z, h1⟩ := U179_0 hS h1
      cases k with
      | zero => exact (PS_0 z).elim
      | succ k =>
        obtain ⟨q2, w4, zz, hz⟩ := U173_0 hS z
        obtain ⟨f1, alt⟩ := F98 h3 zz
        have S4 : SK w4 := f1.2.2.2
        have ea := FM_al f1
        -- the class says no: the reference too
        have no : ∀ (w9 : pm_W), SK w9 → al w9 = al w → w1 = w9 → r = some (.int (-1)) → (q2 = some (.int 0) ∨ ∃ u : Nat, p1.toInt = u ∧ ¬ (0 ≤ p4.toInt ∧ p4.toInt < (Pof (al w) u : Nat))) → r2 = r := by
          intro w9 S9 e9 ew er hq
          rw [ew] at h2
          obtain ⟨q6, w6, y6, h2⟩ := U291_0 S9 h2
          obtain ⟨S6, e6, alt2⟩ := F245 h3 zz S9 e9 y6
          have : q6 = some (.int 0) := by
            rcases alt2 with ⟨_, x⟩ | ⟨u, t1, t2, b1, b3, b4, b5, b6, b7, b8⟩
            · exact x
            · rcases hq with x | ⟨u', x1, x2⟩
              · rw [b1] at x; exact absurd x i10
              · have e : u' = u := by omega
                rw [e] at x2
                rw [b8, decide_eq_false (fun y => x2 y.1)]; rfl
          have h2 := h2 _ this S6
          rw [if_pos rfl] at h2
          rw [h2.1, er]
        rcases alt with ⟨u, s1, a1, a2, a3⟩ | ⟨a1, a2⟩
        · have hz := hz _ a1 S4
          rw [if_neg (by decide +kernel)] at hz
          obtain ⟨q4, w5, y5, h5⟩ := hz
          have hL := LKC h3 f1 a2 a3 y5
          obtain ⟨b1, u', s1', b2, b3, b4, b5, b6, b7, b8, b9, b10, b11⟩ := LK5_c h3 zz a1 y5
          have eu : u' = u := by have := a2.1; omega
          subst eu
          have S5 : SK w5 := b7.2.2.2
          obtain ⟨d1, d2⟩ := h5 b1 S5
          rw [d2] at h1
          have h1 := h1 _ d1 S5
          rw [if_neg (by decide +kernel), b8] at h1
          have e5 : al w5 = al w := by rw [al_FM b7 (by decide), ea]
          have hm5 : gI w5 147 31 = gI w 147 31 := by rw [FM_i b7 (by simp), FM_i f1 (by simp)]
          obtain ⟨v1, v1', v3, v2, hv4⟩ := VA_v h3.2 b3
          have h1 := use_p S5 h1 (fun _ _ y => F61 S5 b9 y)
          by_cases c : 0 ≤ p4.toInt ∧ p4.toInt < (Pof (al w) u' : Nat)
          · have h1 := ifb_t c h1
            obtain ⟨p, hp4⟩ : ∃ p : Nat, p4.toInt = p := ⟨p4.toInt.toNat, by omega⟩
            obtain ⟨q7, w7, y7, h7⟩ := h1
            obtain ⟨f7, z7, m1, m2⟩ := F178 (sl := 0) S5 hL z32 ⟨by omega, by omega⟩ y7
            have S7 := f7.2.2.2
            obtain ⟨q8, w8, y8, h8⟩ := h7 _ m1 S7
            have hL7 := LKw_fm hL f7
            obtain ⟨vv, g1, g2, g3, g4, g5, g6, g7, g8, g9⟩ := id hL7.1
            obtain ⟨o1, f8, o3⟩ := dropP S7 g1 (by omega) g2 g3 hp4 (by omega) y8
            have S8 := f8.2.2.2
            obtain ⟨q9, w9, y9, h9⟩ := h8 o1 S8
            have hL8 : LKw w8 (Pof (al w) u') (Wof (al w) u') (wAf (al w) u') (wBf (al w) u') (wNf (al w) u') (fun κ => wtP (al w) u' κ 3) := by
              refine ⟨WSH_fm hL7.1 f8 (by intro p hp; cases hp) (by decide), fun i j hi hj => ?_, by rw [FM_i f8 (by simp)]; exact hL7.2.2.1, fun s hs => ?_, hL7.2.2.2.2⟩
              · rw [o3 i j hi hj]
                have := hL7.2.1 i j hi hj
                split <;> omega
              · rw [← hL7.2.2.2.1 s hs]
                unfold vaW
                rw [FM_a f8 (by decide)]
            obtain ⟨f9, z9, m3, m4⟩ := F178 (sl := 0) S8 hL8 z32 ⟨by omega, by omega⟩ y9
            have S9 := f9.2.2.2
            have hW := h9 _ m3 S9
            rw [hW.2] at h2
            have e9 : al w9 = al w := by rw [al_FM f9 (by decide), al_FM f8 (by decide), al_FM f7 (by decide), e5]
            obtain ⟨q6, w6, y6, h2⟩ := U291_0 S9 h2
            obtain ⟨S6, e6, alt2⟩ := F245 h3 zz S9 e9 y6
            have hm6 : gI w6 147 31 = gI w 147 31 := by
              rw [(F245m S9 (by rw [e9]; exact h3.1.2.1.1) (by rw [e9]; exact h3.2) y6).1, FM_i f9 (by simp), FM_i f8 (by simp), FM_i f7 (by simp), hm5]
            rcases alt2 with ⟨gg1, _⟩ | ⟨u2, t1, t2, _, c1, c2, c3, c4, c5, c6⟩
            · rw [a1] at gg1; exact absurd gg1 i10
            · have eu : u2 = u' := by omega
              subst eu
              have hN : t1.2.2.2 ≤ 30 := by
                have x1 := c4.2.2.2.2.2
                have x2 := a3.2.2.2.2.2
                have x3 := LDR_N h3.2 h3.1.2.1.1 a2
                omega
              have hLD : LD3 w w4 w6 p1 u2 t1 t2 := ⟨c1, c2, b4, c3, c4, c5, hN⟩
              have hK := b11 w6 t1 t2 hLD e6 hm6
              have hp := plV c1 b4
              rw [decide_eq_true (show (0 ≤ p4.toInt ∧ p4.toInt < (Pof (al w) u2 : Nat)) ∧ (0 ≤ p4.toInt ∧ p4.toInt < (Pof (al w) u2 : Nat)) from ⟨c, c⟩)] at c6
              have h2 := h2 _ c6 S6
              rw [if_neg (by decide +kernel)] at h2
              have h2 := use_p S6 h2 (fun _ _ y => F217v S6 c1 b4 y)
              obtain ⟨x9, w10, f10, n1, h2⟩ := F287v (sl := 0) S6 hK.2.1 hp (by rw [e6]; exact hL.2.2.2.2) z32 ⟨by omega, by omega⟩ h2
              have S10 := f10.2.2.2
              have e10 : al w10 = al w := by rw [al_FM f10 (by decide), e6]
              obtain ⟨x10, w11, f11, n2, h2⟩ := F287v (sl := 0) S10 (WSR_fm hK.2.1 f10 (by decide) (by decide)) hp (by rw [e10]; exact hL.2.2.2.2) z32 ⟨by omega, by omega⟩ h2
              rw [e6, hm6, hmf, m1i] at n1
              rw [e10, rmA_fm f10 (by decide) (by decide), FM_i f10 (by simp), FM_i f10 (by simp), hm6, hmf, m1i, hp4] at n2
              rw [bstF_cg (fun s => (can_2 hK s).symm)] at n1
              have ec : ∀ s, CANH (rmX (rmA w6 u2) (p : Int) (-1) (gI w6 147 32).toInt) (Pof (al w) u2) (Wof (al w) u2) (wAf (al w) u2) (wBf (al w) u2) (wNf (al w) u2) s 0 ↔ CANH (rmW w8) (Pof (al w) u2) (Wof (al w) u2) (wAf (al w) u2) (wBf (al w) u2) (wNf (al w) u2) s 0 := fun s => CANH_cg (fun i j hi hj => by
                rw [o3 i j hi hj, rmW_fm f7]
                unfold rmX
                by_cases q : i = p ∨ j = p
                · rw [if_pos q, if_pos (by omega)]
                · rw [if_neg q, if_neg (by omega), if_neg (by omega), hK.2.2.2.1 i j hi hj]
                  omega)
              rw [bstF_cg ec] at n2
              rw [h2.1, hW.1, sub_eq (n1.trans m2.symm) (n2.trans m4.symm)]
          · have h1 : r = some (.int (-1)) ∧ w1 = w5 := ifb_f c h1
            exact no w5 S5 e5 h1.2 h1.1 (Or.inr ⟨u', a2.1, c⟩)
        · have hz := hz _ a1 S4
          rw [if_pos rfl] at hz
          have h1 := h1 _ hz.1 (by rw [hz.2]; exact S4)
          rw [if_pos rfl, hz.2] at h1
          exact no w4 S4 ea h1.2 h1.1 (Or.inl a1)
end IWS
