/-! ===== one, gap ===== -/
section JYA
variable {X : pm_X} {k k2 : Nat} {w0 w w1 w2 w3 w4 w5 wj w' : pm_W} {r r2 q0 q1 q2 : Option Value} {p1 p2 p3 p4 p5 p i1 i2 i3 i4 i5 i6 i7 i8 z z1 z2 so x n : Int32} {i v j m c u P t s b d q κ N s' : Nat} {y : Int} {E E' : Nat → Nat} {a D D' D0 e e' fee F : Nat → Int32} {s1 t1 t2 : SN}
/-- both sides, behind the last want -/
theorem OB_2 (h : OBw a u so D0 w) (h2 : OBr a u so D0 w2) : gI w2 147 35 = gI w 83 0 ∧ (∃ s : Nat, s < 2 ^ Wof a u ∧ (gI w2 147 35).toInt = s ∧ (gI w 83 1).toInt = vlS (fun κ => wtP a u κ 3) (Wof a u) s) ∧ eaR w2 = eaC w := by
  obtain ⟨D, s, e, a1, a2, a3, a4⟩ := h
  obtain ⟨D', s', e', b1, b2, b3⟩ := h2
  obtain ⟨_, x2, x3⟩ := OB_uq _ D s e D' s' e' a1 b1
  exact ⟨Int32.toInt_inj.mp (by rw [b2, a2, x2]), ⟨s, OB_s _ D s e a1, by rw [b2, x2], a3⟩, by rw [b3, a4, x3]⟩
theorem p2W (h : N ≤ 7) (hs : s < 2 ^ N) : s < 128 := Nat.lt_of_lt_of_le hs (Nat.le_trans (Nat.pow_le_pow_right (by decide) h) (by decide))
theorem F155_74 (hS : SK w) (hw : ∀ r1 w2, PS X k 156 0 [.ref 83, .ref 33, .ref 55, .int p4, pm_dead, pm_dead, pm_dead] [] w r1 w2 → r1 = none ∧ FM obF obA w w2 ∧ OBw a u p4 D0 w2) (h : PS X (k + 1) 155 74 [.ref 0, .int p1, .int p2, .int p3, .int p4, .int p5, .int i6, .int i7] [] w r w') : FM obF obA w w' ∧ OBw a u p4 D0 w' ∧ if p5 = 0 then r = some (.int (gI w' 83 0)) else if p5 = 1 then r = some (.int (gI w' 83 1)) else r = some (.int (aG w' 84 i6)) := by
  obtain ⟨r1, w2, y, h⟩ := U155_74 hS h
  obtain ⟨a1, a2, a3⟩ := hw _ _ y
  have h := h a1 a2.2.2.2
  by_cases c0 : p5 = 0
  · rw [if_pos c0] at h ⊢
    rw [h.2]; exact ⟨a2, a3, h.1⟩
  · rw [if_neg c0] at h ⊢
    by_cases c1 : p5 = 1
    · rw [if_pos c1] at h ⊢
      rw [h.2]; exact ⟨a2, a3, h.1⟩
    · rw [if_neg c1] at h ⊢
      rw [h.2.2]; exact ⟨a2, a3, h.2.1⟩
theorem RC_31 (h3 : RL3 w) (h1 : PS X k 155 0 [.ref 0, .int p1, .int p2, .int p3, .int p4, .int p5, pm_dead, pm_dead] [] w r w1) (h2 : PS X k2 304 0 [.ref 147, .int p1, .int p2, .int p3, .int p4, .int p5, pm_dead] [] w1 r2 w2) : r2 = r := by
  have hS := h3.1.1
  have e10 : (10 : Int32).toInt = 10 := ten32
  cases k with
  | zero => exact (PS_0 h1).elim
  | succ k =>
    cases k2 with
    | zero => exact (PS_0 h2).elim
    | succ k2 =>
      have no18 : ∀ (k : Nat) (w9 : pm_W), SK w9 → PS X k 155 18 [.ref 0, .int p1, .int p2, .int p3, .int p4, .int p5, pm_dead, pm_dead] [] w9 r w1 → r = some (.int (-1)) ∧ w1 = w9 := by
        intro k w9 S9 h
        cases k with
        | zero => exact (PS_0 h).elim
        | succ k => exact U155_18 S9 h
      obtain ⟨qa, wa, ya, h1⟩ := U155_0 hS h1
      obtain ⟨ea, alt⟩ := F132 hS ya
      rcases alt with ⟨os, ra⟩ | ⟨ns, ra⟩
      · have h1 := h1 _ ra (by rw [ea]; exact hS)
        rw [if_neg (by decide +kernel), ea] at h1
        obtain ⟨q4, w5, zz, h1⟩ := h1
        obtain ⟨f1, alt⟩ := F98 h3 zz
        have S5 : SK w5 := f1.2.2.2
        have e5 := FM_al f1
        rcases alt with ⟨u, s1, a1, a2, a3⟩ | ⟨a1, a2⟩
        · have h1 := h1 _ a1 S5
          rw [if_neg (by decide +kernel)] at h1
          have hu := a2.2.1
          obtain ⟨v1, v1', v3, v2, v4⟩ := VA_v h3.2 hu
          obtain ⟨x1, x2, x3⟩ := VA_w h3.2 hu
          have hwb : ∀ κ, κ < Wof (al w) u → 0 ≤ (wtP (al w) u κ 3).toInt ∧ (wtP (al w) u κ 3).toInt ≤ 99 := fun κ hκ => by
            have q := x3 κ hκ
            exact ⟨q.2.2.2.2.2.2.2.1, q.2.2.2.2.2.2.2.2⟩
          obtain ⟨g1, g2, g3, g4⟩ := CVL h3 hu f1 a3
          rw [g3] at g1
          have hd : dA w5 33 = s1.1 := a3.2.2.1
          have sN : s1.2.2.2 ≤ 30 := LDR_N h3.2 h3.1.2.1.1 a2
          have u1 : u ≤ 1 := by have := h3.1.2.1.1.2.1; omega
          have K5 : VOK (al w) u w5 := VOK_fm (VOK_0 h3 hu) f1 (by decide) (by decide)
          have beg : ∀ (k : Nat) (r1 : Option Value) (w2 : pm_W), PS X k 156 0 [.ref 83, .ref 33, .ref 55, .int p4, pm_dead, pm_dead, pm_dead] [] w5 r1 w2 → r1 = none ∧ FM obF obA w5 w2 ∧ OBw (al w) u p4 s1.1 w2 := fun k r1 w2 y => F156 K5 h3.2 hu g3 hd a3.2.2.2.2.2 sN y
          -- what the class answers
          have h74 : ∀ (k : Nat) (i7 : Int32), PS X k 155 74 [.ref 0, .int p1, .int p2, .int p3, .int p4, .int p5, .int (p5 - 10), .int i7] [] w5 r w1 → FM obF obA w5 w1 ∧ OBw (al w) u p4 s1.1 w1 ∧ if p5 = 0 then r = some (.int (gI w1 83 0)) else if p5 = 1 then r = some (.int (gI w1 83 1)) else r = some (.int (aG w1 84 (p5 - 10))) := by
            intro k i7 h
            cases k with
            | zero => exact (PS_0 h).elim
            | succ k => exact F155_74 S5 (beg k) h
          have h53 : ∀ (k : Nat), PS X k 155 53 [.ref 0, .int p1, .int p2, .int p3, .int p4, .int p5, .int (p5 - 10), pm_dead] [] w5 r w1 → ((p5 = 0 ∨ p5 = 1) ∧ FM obF obA w5 w1 ∧ OBw (al w) u p4 s1.1 w1 ∧ if p5 = 0 then r = some (.int (gI w1 83 0)) else if p5 = 1 then r = some (.int (gI w1 83 1)) else r = some (.int (aG w1 84 (p5 - 10)))) ∨ (p5 ≠ 0 ∧ p5 ≠ 1 ∧ r = some (.int (-1)) ∧ w1 = w5) := by
            intro k h
            cases k with
            | zero => exact (PS_0 h).elim
            | succ k =>
              have h := U155_53 S5 h
              by_cases c0 : p5 = 0
              · rw [if_pos c0] at h
                exact Or.inl ⟨Or.inl c0, h74 _ _ h⟩
              · rw [if_neg c0] at h
                by_cases c1 : p5 = 1
                · rw [if_pos c1] at h
                  exact Or.inl ⟨Or.inr c1, h74 _ _ h⟩
                · rw [if_neg c1] at h
                  exact Or.inr ⟨c0, c1, h⟩
          have cls : ((p5 = 0 ∨ p5 = 1 ∨ (10 ≤ p5.toInt ∧ p5.toInt < 10 + Pof (al w) u)) ∧ FM obF obA w5 w1 ∧ OBw (al w) u p4 s1.1 w1 ∧ if p5 = 0 then r = some (.int (gI w1 83 0)) else if p5 = 1 then r = some (.int (gI w1 83 1)) else r = some (.int (aG w1 84 (p5 - 10)))) ∨ (¬ (p5 = 0 ∨ p5 = 1 ∨ (10 ≤ p5.toInt ∧ p5.toInt < 10 + Pof (al w) u)) ∧ r = some (.int (-1)) ∧ w1 = w5) := by
            by_cases c1 : p5 < 10
            · rw [if_pos c1] at h1
              rw [Int32.lt_iff_toInt_lt, e10] at c1
              rcases h53 _ h1 with ⟨d1, d2⟩ | ⟨d1, d2, d3⟩
              · exact Or.inl ⟨d1.elim Or.inl (fun q => Or.inr (Or.inl q)), d2⟩
              · exact Or.inr ⟨fun q => by
                  rcases q with q | q | q
                  · exact d1 q
                  · exact d2 q
                  · omega, d3⟩
            · rw [if_neg c1] at h1
              rw [Int32.lt_iff_toInt_lt, e10] at c1
              have n0 : p5 ≠ 0 := fun q => by rw [q, z32] at c1; omega
              have n1 : p5 ≠ 1 := fun q => by rw [q, o32] at c1; omega
              have e5' : (p5 - 10).toInt = p5.toInt - 10 := zi_sub rfl e10 (by omega) (by have := zi_hi p5; omega)
              rw [g3] at h1
              have h1 := use_p S5 h1 (fun _ _ y => F61 S5 g1 y)
              by_cases c2 : 0 ≤ (p5 - 10).toInt ∧ (p5 - 10).toInt < (Pof (al w) u : Nat)
              · have h1 := ifb_t c2 h1
                rw [e5'] at c2
                rw [if_neg n0, if_neg n1] at h1
                exact Or.inl ⟨Or.inr (Or.inr (by omega)), h74 _ _ h1⟩
              · have h1 := ifb_f c2 h1
                rw [e5'] at c2
                rcases h53 _ h1 with ⟨d1, _⟩ | ⟨d1, d2, d3⟩
                · rcases d1 with q | q <;> contradiction
                · exact Or.inr ⟨fun q => by
                    rcases q with q | q | q
                    · exact d1 q
                    · exact d2 q
                    · omega, d3⟩
          have w1S : SK w1 ∧ al w1 = al w := by
            rcases cls with ⟨_, q, _⟩ | ⟨_, _, q⟩
            · exact ⟨q.2.2.2, by rw [al_FM q (by decide), e5]⟩
            · rw [q]; exact ⟨S5, e5⟩
          obtain ⟨S1, e1⟩ := w1S
          -- the reference
          have h2 := use_p S1 (U304_0 S1 h2) (fun _ _ z => F199 S1 z)
          rw [isI_t z32 two32] at h2
          have h2 := ifb_t (okSo_i.mp os) h2
          obtain ⟨q6, w6, y6, h2⟩ := h2
          obtain ⟨f6, e6, alt2⟩ := LOAD3 h3 zz S1 e1 y6
          have S6 := f6.2.2.2
          rcases alt2 with ⟨gg1, _⟩ | ⟨u2, t1, t2, _, gg2, hLD⟩
          · rw [a1] at gg1; exact absurd gg1 i10
          · have eu : u2 = u := by have := hLD.1; have := a2.1; omega
            subst eu
            obtain ⟨d3, d4, d5, d6, d7, d8, d9⟩ := id hLD
            have h2 := h2 _ gg2 S6
            rw [if_neg (by decide +kernel)] at h2
            have h2 := use_p S6 h2 (fun _ _ y => F217v S6 d3 u1 y)
            obtain ⟨q7, w7, y7, h2⟩ := h2
            have ed : dR w6 = s1.1 := by
              have x1 : dA w5 33 = t1.1 := d7.2.2.1
              rw [show dR w6 = t2.1 from d8.1, d6.1, ← x1, hd]
            obtain ⟨b1, f7, b3⟩ := F305 (D0 := s1.1) S6 e6 ed h3.2 hu u1 (plV d3 u1) os y7
            have S7 := f7.2.2.2
            have e7 : al w7 = al w := by rw [al_FM f7 (by decide), e6]
            have h2 := h2 b1 S7
            have eP : (aG w7 148 (610 + 132 * p1)).toInt = Pof (al w) u2 := by
              rw [aG_n (plV d3 u1)]
              show (al w7 _).toInt = _
              rw [e7]
              exact v3
            have hs : ∃ s : Nat, s < 2 ^ Wof (al w) u2 ∧ (gI w7 147 35).toInt = s := by
              obtain ⟨D, s, e, b1, b2, _⟩ := b3
              exact ⟨s, OB_s _ D s e b1, b2⟩
            have no7 : ¬ (p5 = 0 ∨ p5 = 1 ∨ (10 ≤ p5.toInt ∧ p5.toInt < 10 + Pof (al w) u2)) → r2 = some (.int (-1)) := by
              intro hn
              rw [if_neg (fun q => hn (Or.inl q)), if_neg (fun q => hn (Or.inr (Or.inl q)))] at h2
              obtain ⟨_, h2⟩ := h2
              have h2 := use_p S7 h2 (fun _ _ z => F199 S7 z)
              rw [isI_t e10 (zi_add (show (9 : Int32).toInt = 9 from nine32) eP (by omega) (by omega))] at h2
              exact (ifb_f (fun q => hn (Or.inr (Or.inr (by omega)))) h2).1
            rcases cls with ⟨hv, fw, hO, hr⟩ | ⟨hn, hr, _⟩
            · obtain ⟨o1, ⟨s, o2, o3, o4⟩, o5⟩ := OB_2 hO b3
              by_cases c0 : p5 = 0
              · rw [if_pos c0] at h2 hr
                rw [h2.1, hr, o1]
              · rw [if_neg c0] at h2 hr
                by_cases c1 : p5 = 1
                · rw [if_pos c1] at h2 hr
                  obtain ⟨zv, n1, n2⟩ := use_z S7 h2 (fun _ _ y => F288g S7 u1 (by rw [e7]; exact x1) x2 (plV d3 u1) (by rw [e7]; exact hwb) o3 (p2W x2 o2) y)
                  rw [e7] at n1
                  rw [n2.1, hr, Int32.toInt_inj.mp (n1.trans o4.symm)]
                · rw [if_neg c1] at h2 hr
                  have hp5 : 10 ≤ p5.toInt ∧ p5.toInt < 10 + Pof (al w) u2 := by
                    rcases hv with q | q | q
                    · exact absurd q c0
                    · exact absurd q c1
                    · exact q
                  obtain ⟨_, h2⟩ := h2
                  have h2 := use_p S7 h2 (fun _ _ z => F199 S7 z)
                  rw [isI_t e10 (zi_add (show (9 : Int32).toInt = 9 from nine32) eP (by omega) (by omega))] at h2
                  have h2 := ifb_t (by omega) h2
                  have es : (p5 - 10).toInt = (p5.toInt.toNat - 10 : Nat) := by rw [zi_sub rfl e10 (by omega) (by omega)]; omega
                  rw [h2.2.1, hr, aG_n es, aG_n es]
                  exact congrArg (fun f => some (Value.int (f (p5.toInt.toNat - 10)))) o5
            · rw [hr, no7 hn]
        · have h1 := h1 _ a1 S5
          rw [if_pos rfl] at h1
          obtain ⟨rr, ww⟩ := no18 _ _ S5 h1
          rw [ww] at h2
          have h2 := use_p S5 (U304_0 S5 h2) (fun _ _ z => F199 S5 z)
          rw [isI_t z32 two32] at h2
          have h2 := ifb_t (okSo_i.mp os) h2
          obtain ⟨q6, w6, y6, h2⟩ := h2
          obtain ⟨f6, e6, alt2⟩ := LOAD3 h3 zz S5 e5 y6
          rcases alt2 with ⟨_, gg1⟩ | ⟨u2, t1, t2, gg1, _⟩
          · have h2 := h2 _ gg1 f6.2.2.2
            rw [if_pos rfl] at h2
            rw [h2.1, rr]
          · rw [a1] at gg1; exact absurd gg1.symm i10
      · have h1 := h1 _ ra (by rw [ea]; exact hS)
        rw [if_pos rfl, ea] at h1
        obtain ⟨rr, ww⟩ := no18 _ _ hS h1
        rw [ww] at h2
        have h2 := use_p hS (U304_0 hS h2) (fun _ _ z => F199 hS z)
        rw [isI_t z32 two32] at h2
        have h2 := ifb_f (fun q => ns (okSo_i.mpr q)) h2
        rw [h2.1, rr]
/-- gap -/
theorem RC_32 (h3 : RL3 w) (hmf : gI w 147 31 = -1) (h1 : PS X k 186 0 [.ref 0, .int p1, .int p2, .int p3, pm_dead] [] w r w1) (h2 : PS X k2 306 0 [.ref 147, .int p1, .int p2, .int p3, pm_dead, pm_dead] [] w1 r2 w2) : r2 = r := by
  have hS := h3.1.1
  cases k with
  | zero => exact (PS_0 h1).elim
  | succ k =>
    cases k2 with
    | zero => exact (PS_0 h2).elim
    | succ k2 =>
      obtain ⟨q1, w3, z, h1⟩ := U186_0 hS h1
      cases k with
      | zero => exact (PS_0 z).elim
      | succ k =>
        obtain ⟨q2, w4, zz, hz⟩ := U173_0 hS z
        obtain ⟨f1, alt⟩ := F98 h3 zz
        have S4 : SK w4 := f1.2.2.2
        have ea := FM_al f1
        rcases alt with ⟨u, s1, a1, a2, a3⟩ | ⟨a1, a2⟩
        · have hz := hz _ a1 S4
          rw [if_neg (by decide +kernel)] at hz
          obtain ⟨q4, w5, y5, h5⟩ := hz
          have hL := LKC h3 f1 a2 a3 y5
          obtain ⟨b1, u', s1', b2, b3, b4, b5, b6, b7, b8, b9, b10, b11⟩ := LK5_c h3 zz a1 y5
          have eu : u' = u := by have := a2.1; omega
          subst eu
          have S5 : SK w5 := b7.2.2.2
          obtain ⟨d1, d2⟩ := h5 b1 S5
          rw [d2] at h1
          have h1 := h1 _ d1 S5
          rw [if_neg (by decide +kernel)] at h1
          have hu := a2.2.1
          have u1 : u' ≤ 1 := by have := h3.1.2.1.1.2.1; omega
          obtain ⟨v1, v1', v3, v2, v4⟩ := VA_v h3.2 hu
          obtain ⟨x1, x2, x3⟩ := VA_w h3.2 hu
          obtain ⟨g1, g2, g3, g4⟩ := CVL h3 hu f1 a3
          have hd : dA w4 33 = s1.1 := a3.2.2.1
          have sN : s1.2.2.2 ≤ 30 := LDR_N h3.2 h3.1.2.1.1 a2
          have e5 : al w5 = al w := by rw [al_FM b7 (by decide), ea]
          have hm5 : gI w5 147 31 = gI w 147 31 := by rw [FM_i b7 (by simp), FM_i f1 (by simp)]
          obtain ⟨q7, w7, y7, h7⟩ := h1
          obtain ⟨f7, z7, m1, m2⟩ := F178 (sl := 0) S5 hL z32 ⟨by omega, by omega⟩ y7
          have S7 := f7.2.2.2
          obtain ⟨q8, w8, y8, h8⟩ := h7 _ m1 S7
          have K7 : VOK (al w) u' w7 := VOK_fm (VOK_fm (VOK_fm (VOK_0 h3 hu) f1 (by decide) (by decide)) b7 (by decide) (by decide)) f7 (by intro q hq; cases hq) (by decide)
          obtain ⟨c1, f8, hO⟩ := F156 (D0 := s1.1) (N := s1.2.2.2) K7 h3.2 hu (by rw [FM_r f7 (by simp), FM_r b7 (by decide)]; exact g3) (by
            rw [← hd]
            funext q
            unfold dA
            rw [FM_a f7 (by decide), FM_a b7 (by decide)]) (by rw [FM_i f7 (by simp), FM_i b7 (by decide)]; exact a3.2.2.2.2.2) sN y8
          have S8 := f8.2.2.2
          have hW := h8 c1 S8
          rw [hW.2] at h2
          have e9 : al w8 = al w := by rw [al_FM f8 (by decide), al_FM f7 (by decide), e5]
          obtain ⟨q6, w6, y6, h2⟩ := U306_0 S8 h2
          obtain ⟨f6, e6, alt2⟩ := LOAD3 h3 zz S8 e9 y6
          have S6 : SK w6 := f6.2.2.2
          have hm6 : gI w6 147 31 = gI w 147 31 := by rw [FM_i f6 (by simp), FM_i f8 (by decide), FM_i f7 (by simp), hm5]
          rcases alt2 with ⟨gg1, _⟩ | ⟨u2, t1, t2, _, gg2, hLD⟩
          · rw [a1] at gg1; exact absurd gg1 i10
          · have eu : u2 = u' := by have := hLD.1; omega
            subst eu
            have hK := b11 w6 t1 t2 hLD e6 hm6
            obtain ⟨d3, d4, d5, d6, d7, d8, d9⟩ := id hLD
            have hp := plV d3 u1
            have h2 := h2 _ gg2 S6
            rw [if_neg (by decide +kernel)] at h2
            have h2 := use_p S6 h2 (fun _ _ y => F217v S6 d3 u1 y)
            obtain ⟨x9, w9, f10, n1, h2⟩ := F287v (sl := 0) S6 hK.2.1 hp (by rw [e6]; exact hL.2.2.2.2) z32 ⟨by omega, by omega⟩ h2
            rw [e6, hm6, hmf, m1i, bstF_cg (fun s => (can_2 hK s).symm)] at n1
            have S9 := f10.2.2.2
            have e10 : al w9 = al w := by rw [al_FM f10 (by decide), e6]
            obtain ⟨q11, w11, y11, h2⟩ := h2
            have ed : dR w9 = s1.1 := by
              have x1 : dA w4 33 = t1.1 := d7.2.2.1
              rw [show dR w9 = dR w6 from by funext q; unfold dR; rw [FM_a f10 (by decide)], show dR w6 = t2.1 from d8.1, d6.1, ← x1, hd]
            obtain ⟨o1, f11, o3⟩ := F305 (D0 := s1.1) S9 e10 ed h3.2 hu u1 hp (Or.inl rfl) y11
            have S11 := f11.2.2.2
            have e11 : al w11 = al w := by rw [al_FM f11 (by decide), e10]
            have h2 := h2 o1 S11
            obtain ⟨_, ⟨s, o4, o5, o6⟩, _⟩ := OB_2 hO o3
            obtain ⟨zv, n2, n3⟩ := use_z S11 h2 (fun _ _ y => F288g S11 u1 (by rw [e11]; exact x1) x2 hp (by rw [e11]; exact hL.2.2.2.2) o5 (p2W x2 o4) y)
            rw [e11] at n2
            rw [n3.1, hW.1, sub_eq (n1.trans m2.symm) (n2.trans o6.symm)]
        · have hz := hz _ a1 S4
          rw [if_pos rfl] at hz
          have h1 := h1 _ hz.1 (by rw [hz.2]; exact S4)
          rw [if_pos rfl, hz.2] at h1
          rw [h1.2] at h2
          obtain ⟨q6, w6, y6, h2⟩ := U306_0 S4 h2
          obtain ⟨g1, S6⟩ := no_173 h3 zz a1 y6
          have h2 := h2 _ g1 S6
          rw [if_pos rfl] at h2
          rw [h2.1, h1.1]
end JYA
