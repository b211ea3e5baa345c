/-! ===== what is behind n acts of a row in a village: the class's load, one description ===== -/
section HIS
variable {X : pm_X} {k k2 : Nat} {w0 w w1 w2 w' : pm_W} {r r2 : Option Value} {p p1 p2 p3 p4 p5 i1 i2 i3 sl : Int32} {n i v j m u u2 P t s b Q x rr len : Nat} {a V G G1 G2 : Nat → Int32} {Es : Nat → Nat → Int32} {s0 s1 s2 : SN}
def s00 (G : Nat → Int32) : SN := (fun _ => 0, G, 0, 0)
def Pof (a : Nat → Int32) (u : Nat) : Nat := (a (610 + 132 * u)).toInt.toNat
def Vof (a : Nat → Int32) (u : Nat) : Nat → Int32 := fun k => a (610 + 132 * u + k)
def Eof (a : Nat → Int32) (rr : Nat) : Nat → Nat → Int32 := fun j t => a (874 + 272 * rr + 1 + 9 * j + t)
def RL3 (w : pm_W) : Prop := RL2 w ∧ VAa (al w)
theorem WS_00 : WS P 0 ((s00 G).1, (s00 G).2.1) := ⟨⟨fun _ => by show 0 ≤ (0 : Int32).toInt ∧ (0 : Int32).toInt ≤ 99; rw [z32]; omega, fun _ _ _ _ _ => rfl⟩, fun k hk => absurd hk (Nat.not_lt_zero k)⟩
theorem LSt_00 : LSt P (s00 G1) (s00 G2) := ⟨rfl, rfl, rfl, fun k hk => absurd hk (Nat.not_lt_zero k), WS_00 (G := G1), WS_00 (G := G2)⟩
/-- loaded: the state s, in the village u -/
def LDR (a : Nat → Int32) (p1 p2 p3 : Int32) (G : Nat → Int32) (u : Nat) (s : SN) : Prop := p1.toInt = u ∧ u < (a 0).toInt.toNat ∧ ((p2 = -1 ∧ p3 = 0 ∧ s = s00 G) ∨ (p2 ≠ -1 ∧ ∃ rr n : Nat, p2.toInt = rr ∧ rr < (a 1).toInt.toNat ∧ p3.toInt = n ∧ n ≤ (a (874 + 272 * rr)).toInt.toNat ∧ RN (Pof a u) (Vof a u) (Eof a rr) n (s00 G) s))
/-- not loaded -/
def LDN (a : Nat → Int32) (p1 p2 p3 : Int32) (G : Nat → Int32) : Prop := (¬ ∃ u : Nat, p1.toInt = u ∧ u < (a 0).toInt.toNat) ∨ (p2 = -1 ∧ p3 ≠ 0) ∨ (p2 ≠ -1 ∧ ((¬ ∃ rr : Nat, p2.toInt = rr ∧ rr < (a 1).toInt.toNat) ∨ p3.toInt < 0 ∨ ∃ rr : Nat, p2.toInt = rr ∧ rr < (a 1).toInt.toNat ∧ (((a (874 + 272 * rr)).toInt.toNat : Int) < p3.toInt ∨ ∃ (u j : Nat) (s : SN), p1.toInt = u ∧ u < (a 0).toInt.toNat ∧ (j : Int) < p3.toInt ∧ j < (a (874 + 272 * rr)).toInt.toNat ∧ RN (Pof a u) (Vof a u) (Eof a rr) j (s00 G) s ∧ ACT (Pof a u) (Vof a u) (Eof a rr j) s.1 s.2.1 s.2.2.1 s.2.2.2 none)))
theorem VA_v (h : VAa a) (hu : u < (a 0).toInt.toNat) : Pof a u ≤ 9 ∧ 2 ≤ Pof a u ∧ (a (610 + 132 * u)).toInt = Pof a u ∧ VW (Vof a u) ∧ (0 ≤ (a (612 + 132 * u)).toInt ∧ (a (612 + 132 * u)).toInt ≤ 9) := by
  obtain ⟨g, _, ⟨c1, c2⟩, _, ⟨c3, c4⟩, c5, _⟩ := h.1 u hu
  have c1 : 2 ≤ (a (610 + 132 * u)).toInt := c1
  have c2 : (a (610 + 132 * u)).toInt ≤ 9 := c2
  have c3 : 0 ≤ (a (610 + 132 * u + 2)).toInt := c3
  have c4 : (a (610 + 132 * u + 2)).toInt ≤ 9 := c4
  rw [show 610 + 132 * u + 2 = 612 + 132 * u by omega] at c3 c4
  unfold Pof
  exact ⟨by omega, by omega, by omega, c5, c3, c4⟩
theorem VA_e (h : VAa a) (hr : rr < (a 1).toInt.toNat) (hj : j < (a (874 + 272 * rr)).toInt.toNat) : VAc (Eof a rr j) := by
  refine VAc_cg (h.2 rr hr j hj) (fun t _ => ?_)
  show a _ = a _
  rw [show 874 + 272 * rr + (1 + 9 * j + t) = 874 + 272 * rr + 1 + 9 * j + t by omega]
/-- what is loaded on one side is loaded on the other, alike -/
theorem LDR_2 (hV : VAa a) (h1 : LDR a p1 p2 p3 G1 u s1) (h2 : LDR a p1 p2 p3 G2 u2 s2) : u2 = u ∧ LSt (Pof a u) s1 s2 := by
  obtain ⟨a1, a2, a3⟩ := h1
  obtain ⟨b1, b2, b3⟩ := h2
  have e : u2 = u := by omega
  subst e
  refine ⟨rfl, ?_⟩
  obtain ⟨v1, _, _, v2, _⟩ := VA_v hV a2
  rcases a3 with ⟨c1, c2, c3⟩ | ⟨c1, rr, n, c2, c3, c4, c5, c6⟩
  · rcases b3 with ⟨_, _, d3⟩ | ⟨d1, _⟩
    · rw [c3, d3]; exact LSt_00
    · exact absurd c1 d1
  · rcases b3 with ⟨d1, _⟩ | ⟨_, rr2, n2, d2, d3, d4, d5, d6⟩
    · exact absurd d1 c1
    · have e1 : rr2 = rr := by omega
      have e2 : n2 = n := by omega
      subst e1
      subst e2
      exact RN_2 v1 v2 LSt_00 n2 s1 s2 (fun j hj => VA_e hV c3 (by omega)) c6 d6
theorem LD_no (hV : VAa a) (h1 : LDR a p1 p2 p3 G1 u s1) (h2 : LDN a p1 p2 p3 G2) : False := by
  obtain ⟨a1, a2, a3⟩ := h1
  obtain ⟨v1, _, _, v2, _⟩ := VA_v hV a2
  rcases h2 with b | ⟨b1, b2⟩ | ⟨b1, b2⟩
  · exact b ⟨u, a1, a2⟩
  · rcases a3 with ⟨_, c2, _⟩ | ⟨c1, _⟩
    · exact b2 c2
    · exact c1 b1
  · rcases a3 with ⟨c1, _⟩ | ⟨_, rr, n, c2, c3, c4, c5, c6⟩
    · exact b1 c1
    · rcases b2 with d | d | ⟨rr2, d1, d2, d3⟩
      · exact d ⟨rr, c2, c3⟩
      · omega
      · have e1 : rr2 = rr := by omega
        subst e1
        rcases d3 with d | ⟨u2, j, s, d4, d5, d6, d7, d8, d9⟩
        · omega
        · have e2 : u2 = u := by omega
          subst e2
          obtain ⟨t3, s3, x1, x2⟩ := RN_pre (j := j + 1) n s1 c6 (by omega)
          have l := RN_2 v1 v2 (LSt_00 (G1 := G2) (G2 := G1)) j s s3 (fun q hq => VA_e hV c3 (by omega)) d8 x1
          rcases ACT_LS v1 v2 (VA_e hV c3 (by omega)) l d9 x2 with ⟨_, z⟩ | ⟨t3, t4, e1, e2, l⟩
          · exact absurd z AO_sn
          · exact absurd e1.symm AO_sn
/-- the class's load -/
theorem F98 (h3 : RL3 w) (h : PS X k 98 0 [.ref 0, .int p1, .int p2, .int p3, pm_dead, pm_dead, pm_dead] [] w r w') : FM [(33, 0), (33, 1), (33, 2)] [39, 40, 41] w w' ∧ ((∃ (u : Nat) (s : SN), r = some (.int 1) ∧ LDR (al w) p1 p2 p3 (gAr w 33) u s ∧ CSt w' 33 (5 + 5 * u) (Pof (al w) u) s.1 s.2.1 s.2.2.1 s.2.2.2) ∨ (r = some (.int 0) ∧ LDN (al w) p1 p2 p3 (gAr w 33))) := by
  obtain ⟨⟨hS, hT, hI⟩, hV⟩ := h3
  have hT' := hT
  obtain ⟨⟨r1, r2, r3, r4, _, _, r7⟩, t1, t2, _, _, _, _, _, t8⟩ := hT
  cases k with
  | zero => exact (PS_0 h).elim
  | succ k =>
    obtain ⟨q1, w2, z, hn, hr⟩ := U98_0 hS h
    obtain ⟨e2, z⟩ := F60 (V := (al w 0).toInt.toNat) hS (by rw [t1]; omega) (by omega) z
    subst e2
    rcases z with ⟨z1, z2⟩ | ⟨u, hu, hu2, z1⟩
    · obtain ⟨x1, x2⟩ := hn z1 hS
      rw [x2]
      exact ⟨FM_refl hS, Or.inr ⟨x1, Or.inl (fun ⟨u, y1, y2⟩ => z2 ⟨by omega, by omega⟩)⟩⟩
    · obtain ⟨u1, g0, _, _, g3, _⟩ := VT hS hT' hu2
      obtain ⟨v1, _, v3, v2, _⟩ := VA_v hV hu2
      obtain ⟨q4, w5, y, hz⟩ := hr _ z1 hS
      obtain ⟨y1, f5, c1, c2, c3, c4⟩ := F74 hS y
      have S5 : SK w5 := f5.2.2.2
      have hz := hz y1 S5
      have okv := okV_n u1
      have f5' : FM [(33, 0), (33, 1), (33, 2)] [39, 40, 41] w2 w5 := FM_mono f5 (by simp) (by simp)
      have eg : gAr w5 33 = gAr w2 33 := by funext q; unfold gAr; rw [FM_a f5 (by decide)]
      have hC : CSt w5 33 (5 + 5 * u) (Pof (al w2) u) (fun _ => 0) (gAr w2 33) 0 0 := ⟨c1, by rw [FM_i f5 (by simp; omega), g0]; exact v3, c4, eg, c2, by rw [c3]; exact z32⟩
      by_cases m1 : p2 = -1
      · rw [if_pos m1] at hz
        by_cases m2 : p3 = 0
        · rw [if_pos m2] at hz
          rw [hz.2]
          exact ⟨f5', Or.inl ⟨u, s00 (gAr w2 33), hz.1, ⟨hu, hu2, Or.inl ⟨m1, m2, rfl⟩⟩, hC⟩⟩
        · rw [if_neg m2] at hz
          rw [hz.2]
          exact ⟨f5', Or.inr ⟨hz.1, Or.inr (Or.inl ⟨m1, m2⟩)⟩⟩
      · rw [if_neg m1] at hz
        obtain ⟨q6, w7, y6, hn6, hr6⟩ := hz
        have d3 : gI w5 1 3 = al w2 1 := by rw [FM_i f5 (by decide)]; exact t2
        obtain ⟨e7, y6⟩ := F67 (V := (al w2 1).toInt.toNat) S5 (by rw [d3]; omega) (by omega) y6
        rcases y6 with ⟨y6, y7⟩ | ⟨rr, hrr, hrr2, y6⟩
        · obtain ⟨x1, x2⟩ := hn6 y6 (by rw [e7]; exact S5)
          rw [x2, e7]
          exact ⟨f5', Or.inr ⟨x1, Or.inr (Or.inr ⟨m1, Or.inl (fun ⟨q, y1, y2⟩ => y7 ⟨by omega, by omega⟩)⟩)⟩⟩
        · have hz := hr6 _ y6 (by rw [e7]; exact S5)
          rw [e7] at hz
          obtain ⟨b1, b2⟩ := r7 rr hrr2
          obtain ⟨s1, s2⟩ := t8 rr hrr2
          have rr2 : rr ≤ 2 := by omega
          by_cases m3 : p3 < 0
          · rw [if_pos m3] at hz
            rw [Int32.lt_iff_toInt_lt, z32] at m3
            rw [hz.2]
            exact ⟨f5', Or.inr ⟨hz.1, Or.inr (Or.inr ⟨m1, Or.inr (Or.inl m3)⟩)⟩⟩
          · rw [if_neg m3] at hz
            rw [Int32.lt_iff_toInt_lt, z32] at m3
            have el : gI w5 (15 + 2 * rr) 0 = al w2 (874 + 272 * rr) := by rw [FM_i f5 (by simp; omega)]; exact s1
            rw [el] at hz
            by_cases m4 : p3 ≤ al w2 (874 + 272 * rr)
            · rw [if_pos m4] at hz
              rw [Int32.le_iff_toInt_le] at m4
              obtain ⟨n, hn⟩ : ∃ n : Nat, p3.toInt = n := ⟨p3.toInt.toNat, by omega⟩
              cases k with
              | zero => exact (PS_0 hz).elim
              | succ k =>
                have eE : ∀ j, j < n → ∀ t, t < 9 → Eof (al w2) rr j t = eR w5 (15 + 2 * rr) j t := by
                  intro j hj t ht
                  have z := s2 (9 * j + t) (by omega)
                  unfold eR Eof
                  rw [FM_a f5 (by simp <;> omega), show 874 + 272 * rr + 1 + 9 * j + t = 874 + 272 * rr + 1 + (9 * j + t) by omega, ← z]
                  rw [show 1 + 15 + 2 * rr = 15 + 2 * rr + 1 by omega]
                have eV : ∀ q, q < 81 → Vof (al w2) u (3 + q) = vcl w5 (5 + 5 * u) (3 + q) := by
                  intro q hq
                  rw [vcl_FMv hS f5 okv (by simp <;> omega) (by simp <;> omega) (by simp <;> omega) (by simp <;> omega) (by simp <;> omega) (by simp <;> omega) (by simp <;> omega)]
                  exact (hT'.2.2.2.2.2.2.2.1 u hu2 (3 + q) (by omega)).symm
                obtain ⟨f6, alt⟩ := F98_74 (s0 := s00 (gAr w2 33)) (by omega) (okR_n rr2) okv (by omega) v1 (fun q hq => by rw [← eV q hq]; exact v2 q hq) (by omega) (fun j hj => VAc_cg (VA_e hV hrr2 (by omega)) (fun t ht => (eE j hj t ht).symm)) WS_00 rfl hn _ 0 w5 0 (s00 (gAr w2 33)) (FM_refl S5) S5 z32 (Nat.zero_le _) rfl hC hz
                refine ⟨FM_trans f5' (FM_mono f6 (by simp) (by simp)), ?_⟩
                rcases alt with ⟨s', x1, x2, x3⟩ | ⟨j, s', x0, x1, x2, x3⟩
                · exact Or.inl ⟨u, s', x2, ⟨hu, hu2, Or.inr ⟨m1, rr, n, hrr, hrr2, hn, by omega, RN_cg eV v1 n s' eE x1⟩⟩, x3⟩
                · exact Or.inr ⟨x3, Or.inr (Or.inr ⟨m1, Or.inr (Or.inr ⟨rr, hrr, hrr2, Or.inr ⟨u, j, s', hu, hu2, by omega, by omega, RN_cg eV v1 j s' (fun i hi => eE i (by omega)) x1, ACT_cg eV (eE j x0) v1 x2⟩⟩)⟩)⟩
            · rw [if_neg m4] at hz
              rw [Int32.le_iff_toInt_le] at m4
              rw [hz.2]
              exact ⟨f5', Or.inr ⟨hz.1, Or.inr (Or.inr ⟨m1, Or.inr (Or.inr ⟨rr, hrr, hrr2, Or.inl (by omega)⟩)⟩)⟩⟩
end HIS
