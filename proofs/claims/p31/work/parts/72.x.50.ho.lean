/-! ===== stop, asked on both sides ===== -/
section HOS
variable {X : pm_X} {k k2 : Nat} {w0 w w1 w2 w3 w4 w' : pm_W} {r r2 q1 q2 : Option Value} {p p1 p2 p3 p4 p5 i1 i2 i3 sl : Int32} {n i v j m u u2 P t s b Q x rr len o3 : Nat} {a V G G1 G2 : Nat → Int32} {Es : Nat → Nat → Int32} {s0 s1 s2 t1 t2 : SN}
def VRt (a : Nat → Int32) (p1 p2 : Int32) : Prop := (0 ≤ p1.toInt ∧ p1.toInt < ((a 0).toInt.toNat : Nat)) ∧ (0 ≤ p2.toInt ∧ p2.toInt < ((a 1).toInt.toNat : Nat))
/-- how far a row goes -/
def STO (a : Nat → Int32) (p1 p2 : Int32) (G : Nat → Int32) (j : Nat) : Prop := ∃ (u rr : Nat) (s : SN), p1.toInt = u ∧ u < (a 0).toInt.toNat ∧ p2.toInt = rr ∧ rr < (a 1).toInt.toNat ∧ j ≤ (a (874 + 272 * rr)).toInt.toNat ∧ RN (Pof a u) (Vof a u) (Eof a rr) j (s00 G) s ∧ (j = (a (874 + 272 * rr)).toInt.toNat ∨ (j < (a (874 + 272 * rr)).toInt.toNat ∧ ACT (Pof a u) (Vof a u) (Eof a rr j) s.1 s.2.1 s.2.2.1 s.2.2.2 none))
theorem STO_2 (hV : VAa a) (h1 : STO a p1 p2 G1 j) (h2 : STO a p1 p2 G2 i) : i = j := by
  obtain ⟨u, rr, s, a1, a2, a3, a4, a5, a6, a7⟩ := h1
  obtain ⟨u', rr', s', b1, b2, b3, b4, b5, b6, b7⟩ := h2
  have e1 : u' = u := by omega
  have e2 : rr' = rr := by omega
  subst e1
  subst e2
  obtain ⟨v1, _, v3, v2, v4⟩ := VA_v hV a2
  exact RN_uq v1 v2 LSt_00 (fun j hj => VA_e hV a4 hj) a6 a5 a7 b6 b5 b7
theorem F73 (h3 : RL3 w) (h : PS X k 73 0 [.ref 0, .int p1, .int p2, pm_dead, pm_dead, pm_dead] [] w r w') : SK w' ∧ al w' = al w ∧ ((¬ VRt (al w) p1 p2 ∧ r = some (.int (-1))) ∨ (VRt (al w) p1 p2 ∧ ∃ (j : Nat) (z : Int32), z.toInt = j ∧ r = some (.int z) ∧ STO (al w) p1 p2 (gAr w 33) j)) := by
  obtain ⟨⟨hS, hT, hI⟩, hV⟩ := h3
  have hT' := hT
  obtain ⟨⟨r1, r2, r3, r4, _, _, r7⟩, t1, t2, _, _, _, _, _, t8⟩ := hT
  cases k with
  | zero => exact (PS_0 h).elim
  | succ k =>
    obtain ⟨q1, w2, z, hn, hr⟩ := U73_0 hS h
    obtain ⟨e2, z⟩ := F60 (V := (al w 0).toInt.toNat) hS (by rw [t1]; omega) (by omega) z
    subst e2
    rcases z with ⟨z1, z2⟩ | ⟨u, hu, hu2, z1⟩
    · obtain ⟨q4, w5, y, y1, y2⟩ := hn z1 hS
      obtain ⟨e5, y⟩ := F67 (V := (al w2 1).toInt.toNat) hS (by rw [t2]; omega) (by omega) y
      subst e5
      rcases y with ⟨y, _⟩ | ⟨rr, _, _, y⟩
      · obtain ⟨x1, x2⟩ := y1 y hS
        rw [x2]
        exact ⟨hS, rfl, Or.inl ⟨fun c => z2 c.1, x1⟩⟩
      · obtain ⟨x1, x2⟩ := y2 _ y hS
        rw [x2]
        exact ⟨hS, rfl, Or.inl ⟨fun c => z2 c.1, x1⟩⟩
    · obtain ⟨q4, w5, y, y1, y2⟩ := hr _ z1 hS
      obtain ⟨e5, y⟩ := F67 (V := (al w2 1).toInt.toNat) hS (by rw [t2]; omega) (by omega) y
      subst e5
      rcases y with ⟨y, y3⟩ | ⟨rr, hrr, hrr2, y⟩
      · obtain ⟨x1, x2⟩ := y1 y hS
        rw [x2]
        exact ⟨hS, rfl, Or.inl ⟨fun c => y3 c.2, x1⟩⟩
      · obtain ⟨q7, w7, y7, hz⟩ := y2 _ y hS
        obtain ⟨u1, g0, _, _, g3, _⟩ := VT hS hT' hu2
        obtain ⟨v1, _, v3, v2, _⟩ := VA_v hV hu2
        obtain ⟨y8, f5, c1, c2, c3, c4⟩ := F74 hS y7
        have S5 : SK w7 := f5.2.2.2
        have hz := hz y8 S5
        have okv := okV_n u1
        have eg : gAr w7 33 = gAr w5 33 := by funext q; unfold gAr; rw [FM_a f5 (by decide)]
        have hC : CSt w7 33 (5 + 5 * u) (Pof (al w5) u) (fun _ => 0) (gAr w5 33) 0 0 := ⟨c1, by rw [FM_i f5 (by simp; omega), g0]; exact v3, c4, eg, c2, by rw [c3]; exact z32⟩
        obtain ⟨b1, b2⟩ := r7 rr hrr2
        obtain ⟨s1, s2⟩ := t8 rr hrr2
        have rr2 : rr ≤ 2 := by omega
        have el : (gI w7 (15 + 2 * rr) 0).toInt = ((al w5 (874 + 272 * rr)).toInt.toNat : Nat) := by
          rw [FM_i f5 (by simp; omega), show gI w5 (15 + 2 * rr) 0 = al w5 (874 + 272 * rr) from s1]; omega
        cases k with
        | zero => exact (PS_0 hz).elim
        | succ k =>
          have eE : ∀ j, j < (al w5 (874 + 272 * rr)).toInt.toNat → ∀ t, t < 9 → Eof (al w5) rr j t = eR w7 (15 + 2 * rr) j t := by
            intro j hj t ht
            have z := s2 (9 * j + t) (by omega)
            unfold eR Eof
            rw [FM_a f5 (by simp <;> omega), show 874 + 272 * rr + 1 + 9 * j + t = 874 + 272 * rr + 1 + (9 * j + t) by omega, ← z]
            rw [show 1 + 15 + 2 * rr = 15 + 2 * rr + 1 by omega]
          have eV : ∀ q, q < 81 → Vof (al w5) u (3 + q) = vcl w7 (5 + 5 * u) (3 + q) := by
            intro q hq
            rw [vcl_FMv hS f5 okv (by simp <;> omega) (by simp <;> omega) (by simp <;> omega) (by simp <;> omega) (by simp <;> omega) (by simp <;> omega) (by simp <;> omega)]
            exact (hT'.2.2.2.2.2.2.2.1 u hu2 (3 + q) (by omega)).symm
          obtain ⟨f6, j, z, s', x1, x2, x3, x4, x5⟩ := F73_41 (s0 := s00 (gAr w5 33)) (by omega) (okR_n rr2) okv (by omega) v1 (fun q hq => by rw [← eV q hq]; exact v2 q hq) el (by omega) (fun j hj => VAc_cg (VA_e hV hrr2 hj) (fun t ht => (eE j hj t ht).symm)) WS_00 rfl _ 0 w7 0 (s00 (gAr w5 33)) (FM_refl S5) S5 z32 (Nat.zero_le _) rfl hC hz
          refine ⟨f6.2.2.2, ?_, Or.inr ⟨⟨⟨by omega, by omega⟩, by omega, by omega⟩, j, z, x1, x2, u, rr, s', hu, hu2, hrr, hrr2, x3, RN_cg eV v1 j s' (fun i hi => eE i (by omega)) x4, ?_⟩⟩
          · funext q
            unfold al
            rw [FM_a f6 (by simp), FM_a f5 (by simp)]
          · rcases x5 with x | ⟨x, y⟩
            · exact Or.inl x
            · exact Or.inr ⟨x, ACT_cg eV (eE j x) v1 y⟩
theorem F227 (hS : SK w) (hA : RA (al w)) (h : PS X k 227 0 [.ref 147, .int p1, .int p2] [] w r w') : w' = w ∧ ((VRt (al w) p1 p2 ∧ r = some (.int 1)) ∨ (¬ VRt (al w) p1 p2 ∧ r = some (.int 0))) := by
  obtain ⟨r1, r2, r3, r4, _, _, r7⟩ := hA
  cases k with
  | zero => exact (PS_0 h).elim
  | succ k =>
    have h := U227_0 hS h
    have h := use_p hS h (fun _ _ y => F200n (L := (al w 0).toInt.toNat) hS (m := 0) z32 (by omega) (by omega) y)
    by_cases c : 0 ≤ p1.toInt ∧ p1.toInt < ((al w 0).toInt.toNat : Nat)
    · have h := ifb_t c h
      have h := use_p hS h (fun _ _ y => F200n (L := (al w 1).toInt.toNat) hS (m := 1) o32 (by omega) (by omega) y)
      by_cases c2 : 0 ≤ p2.toInt ∧ p2.toInt < ((al w 1).toInt.toNat : Nat)
      · have h := ifb_t c2 h
        exact ⟨h.2, Or.inl ⟨⟨c, c2⟩, h.1⟩⟩
      · have h := ifb_f c2 h
        exact ⟨h.2, Or.inr ⟨fun y => c2 y.2, h.1⟩⟩
    · have h := ifb_f c h
      exact ⟨h.2, Or.inr ⟨fun y => c y.1, h.1⟩⟩
/-- stop -/
theorem RC_8 (h3 : RL3 w) (h1 : PS X k 73 0 [.ref 0, .int p1, .int p2, pm_dead, pm_dead, pm_dead] [] w r w1) (h2 : PS X k2 226 0 [.ref 147, .int p1, .int p2] [] w1 r2 w2) : r2 = r := by
  obtain ⟨S1, ea, alt⟩ := F73 h3 h1
  have hA : RA (al w1) := by rw [ea]; exact h3.1.2.1.1
  have hV : VAa (al w1) := by rw [ea]; exact h3.2
  cases k2 with
  | zero => exact (PS_0 h2).elim
  | succ k2 =>
    obtain ⟨q1, w3, z, h2⟩ := U226_0 S1 h2
    obtain ⟨e3, z⟩ := F227 S1 hA z
    rw [ea] at z
    rcases z with ⟨z1, z2⟩ | ⟨z1, z2⟩
    · rcases alt with ⟨y, _⟩ | ⟨_, j, zz, x1, x2, x3⟩
      · exact absurd z1 y
      · have h2 := h2 _ z2 (by rw [e3]; exact S1)
        rw [if_neg (by decide +kernel), e3] at h2
        obtain ⟨⟨c1, c2⟩, c3, c4⟩ := z1
        obtain ⟨u, hu⟩ : ∃ u : Nat, p1.toInt = u := ⟨p1.toInt.toNat, by omega⟩
        obtain ⟨rr, hr⟩ : ∃ rr : Nat, p2.toInt = rr := ⟨p2.toInt.toNat, by omega⟩
        have u1 : u ≤ 1 := by have := h3.1.2.1.1.2.1; omega
        have h2 := use_p S1 h2 (fun _ _ y => F217v S1 hu u1 y)
        obtain ⟨q5, w5, y5, h2⟩ := h2
        obtain ⟨b1, b2⟩ := h3.1.2.1.1.2.2.2.2.2.2 rr (by omega)
        obtain ⟨f7, t, s, z5, e1, e2, rn, ht, alt⟩ := F228 (u := u) (rr := rr) (n := 99) S1 hA hV (by rw [ea]; omega) (plV hu u1) hr (by rw [ea]; omega) (by decide +kernel) y5
        rw [ea] at rn alt
        have h2 := h2 _ e2 f7.2.2.2
        have st : STO (al w) p1 p2 (gRr w1) t := by
          refine ⟨u, rr, s, hu, by omega, hr, by omega, ?_, rn, ?_⟩
          · rcases alt with ⟨_, _, y, _⟩ | ⟨_, y, _⟩
            · exact y
            · omega
          · rcases alt with ⟨y1, y2, y3, _⟩ | ⟨_, y, y'⟩
            · exact Or.inl (by omega)
            · exact Or.inr ⟨y, y'⟩
        have e := STO_2 h3.2 x3 st
        rw [h2.1, x2, show z5 = zz from Int32.toInt_inj.mp (by omega)]
    · rcases alt with ⟨_, y⟩ | ⟨y, _⟩
      · have h2 := h2 _ z2 (by rw [e3]; exact S1)
        rw [if_pos rfl] at h2
        rw [h2.1, y]
      · exact absurd y z1
end HOS
