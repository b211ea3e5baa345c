/-! ===== hour ===== -/
section HQH
variable {X : pm_X} {k k2 : Nat} {w0 w w1 w2 w3 w4 w' : pm_W} {r r2 q1 q2 : Option Value} {p p1 p2 p3 p4 p5 i1 i2 i3 sl z z1 z2 : Int32} {n i v j m u u2 P t s b Q x rr len o3 : Nat} {a V V' G G1 G2 : Nat → Int32} {Es Es' : Nat → Nat → Int32} {s0 s1 s2 t1 t2 : SN}
/-- the first act behind which a row is unlawful; -1: none, up to the row's end or the first act that can't be -/
def HW (P : Nat) (V : Nat → Int32) (Es : Nat → Nat → Int32) (sl : Int32) (s0 : SN) (n : Nat) (z : Int32) : Prop := ∃ t, t ≤ n ∧ HT P V Es sl s0 t z ∧ (z = -1 → ∃ s : SN, RN P V Es t s0 s ∧ (t = n ∨ (t < n ∧ ACT P V (Es t) s.1 s.2.1 s.2.2.1 s.2.2.2 none)))
theorem HT_cg (hV : ∀ q, q < 81 → V' (3 + q) = V (3 + q)) (hP : P ≤ 9) (hE : ∀ j, j < n → ∀ t, t < 9 → Es' j t = Es j t) (ht : t ≤ n) (h : HT P V Es sl s0 t z) : HT P V' Es' sl s0 t z := by
  rcases h with ⟨a, b⟩ | ⟨j, a, b, ⟨s', c, d⟩, e⟩
  · refine Or.inl ⟨a, fun j hj => ?_⟩
    obtain ⟨s', x, y⟩ := b j hj
    exact ⟨s', RN_cg hV hP (j + 1) s' (fun i hi => hE i (by omega)) x, y⟩
  · refine Or.inr ⟨j, a, b, ⟨s', RN_cg hV hP (j + 1) s' (fun i hi => hE i (by omega)) c, d⟩, fun i hi => ?_⟩
    obtain ⟨s'', x, y⟩ := e i hi
    exact ⟨s'', RN_cg hV hP (i + 1) s'' (fun q hq => hE q (by omega)) x, y⟩
theorem HW_cg (hV : ∀ q, q < 81 → V' (3 + q) = V (3 + q)) (hP : P ≤ 9) (hE : ∀ j, j < n → ∀ t, t < 9 → Es' j t = Es j t) (h : HW P V Es sl s0 n z) : HW P V' Es' sl s0 n z := by
  obtain ⟨t, ht, a, b⟩ := h
  refine ⟨t, ht, HT_cg hV hP hE ht a, fun e => ?_⟩
  obtain ⟨s, c, d⟩ := b e
  refine ⟨s, RN_cg hV hP t s (fun i hi => hE i (by omega)) c, ?_⟩
  rcases d with d | ⟨d, d'⟩
  · exact Or.inl d
  · exact Or.inr ⟨d, ACT_cg hV (hE t d) hP d'⟩
theorem HW_le (hP : P ≤ 9) (hV : VW V) (hL : LSt P s1 s2) (hA : ∀ j, j < n → VAc (Es j)) (hj : j < n) (h1 : ∃ s' : SN, RN P V Es (j + 1) s1 s' ∧ ¬ lwS P sl s'.1) (h2 : HW P V Es sl s2 n z) : ∃ i : Nat, z.toInt = i ∧ i ≤ j ∧ ∃ s' : SN, RN P V Es (i + 1) s2 s' ∧ ¬ lwS P sl s'.1 := by
  obtain ⟨s', a1, a2⟩ := h1
  have no : ∀ s'' : SN, RN P V Es (j + 1) s2 s'' → lwS P sl s''.1 → False := by
    intro s'' y1 y2
    have l := RN_2 hP hV hL (j + 1) s' s'' (fun q hq => hA q (by omega)) a1 y1
    rw [l.1] at y2
    exact a2 y2
  obtain ⟨t, ht, hT, hz⟩ := h2
  rcases hT with ⟨e, f⟩ | ⟨i, b1, b2, b3, b4⟩
  · by_cases c : j < t
    · obtain ⟨s'', y1, y2⟩ := f j c
      exact (no s'' y1 y2).elim
    · obtain ⟨s'', y1, y2⟩ := hz e
      rcases y2 with y2 | ⟨y2, y3⟩
      · omega
      · obtain ⟨t3, s3, x1, x2⟩ := RN_pre (j := t + 1) (j + 1) s' a1 (by omega)
        have l := RN_2 hP hV (LS_sym hL) t s'' s3 (fun q hq => hA q (by omega)) y1 x1
        rcases ACT_LS hP hV (hA t (by omega)) l y3 x2 with ⟨_, z⟩ | ⟨_, _, e1, _, _⟩
        · exact absurd z AO_sn
        · exact absurd e1.symm AO_sn
  · by_cases c : i ≤ j
    · exact ⟨i, b2, c, b3⟩
    · obtain ⟨s'', y1, y2⟩ := b4 j (by omega)
      exact (no s'' y1 y2).elim
theorem HW_uq (hP : P ≤ 9) (hV : VW V) (hL : LSt P s1 s2) (hA : ∀ j, j < n → VAc (Es j)) (h1 : HW P V Es sl s1 n z1) (h2 : HW P V Es sl s2 n z2) : z1 = z2 := by
  have m1 : (-1 : Int32).toInt = -1 := by decide +kernel
  obtain ⟨t, ht, hT, _⟩ := id h1
  rcases hT with ⟨e, _⟩ | ⟨j, b1, b2, b3, _⟩
  · obtain ⟨t', ht', hT', _⟩ := id h2
    rcases hT' with ⟨e', _⟩ | ⟨j', c1, c2, c3, _⟩
    · rw [e, e']
    · obtain ⟨i, d1, _, _⟩ := HW_le hP hV (LS_sym hL) hA (by omega) c3 h1
      rw [e, m1] at d1
      omega
  · obtain ⟨i, d1, d2, d3⟩ := HW_le hP hV hL hA (by omega) b3 h2
    obtain ⟨i', e1, e2, _⟩ := HW_le hP hV (LS_sym hL) hA (by omega) d3 h1
    exact Int32.toInt_inj.mp (by omega)
theorem F91_41 (hb : b + 1 < 33) (okr : okR b = true) (okv : okV v = true) (hva : v + 4 < 33) (hP9 : P ≤ 9) (hV : VW (vcl w0 v)) (hl : (gI w0 b 0).toInt = n) (hn : n ≤ 30) (hA : ∀ j, j < n → VAc (eR w0 b j)) (hW : WS P s0.2.2.2 (s0.1, s0.2.1)) (hN0 : s0.2.2.2 = 0) (hsl : gI w0 v 1 = sl) : ∀ (k t : Nat) (w : pm_W) (i6 : Int32) (s : SN), FM [(33, 1), (33, 2)] [39, 40, 41] w0 w → SK w0 → i6.toInt = t → t ≤ n → RN P (vcl w0 v) (eR w0 b) t s0 s → CSt w 33 v P s.1 s.2.1 s.2.2.1 s.2.2.2 → (∀ j, j < t → ∃ s' : SN, RN P (vcl w0 v) (eR w0 b) (j + 1) s0 s' ∧ lwS P sl s'.1) → PS X k 91 41 [.ref 0, .int i1, .int i2, .ref o3, .ref b, .int i6] [] w r w' → FM [(33, 1), (33, 2)] [39, 40, 41] w0 w' ∧ ∃ z : Int32, r = some (.int z) ∧ HW P (vcl w0 v) (eR w0 b) sl s0 n z := by
  intro k
  induction k with
  | zero => intro t w i6 s _ _ _ _ _ _ _ h; exact (PS_0 h).elim
  | succ k ih =>
    intro t w i6 s fm hS0 h6 ht hRN hC hLw h
    have hS : SK w := fm.2.2.2
    have h := U91_41 hS h
    have el : gI w b 0 = gI w0 b 0 := FM_i fm (by simp <;> omega)
    rw [el] at h
    by_cases c : gI w0 b 0 ≤ i6
    · rw [if_pos c] at h
      rw [Int32.le_iff_toInt_le, hl, h6] at c
      have e : t = n := by omega
      subst e
      rw [h.2]
      exact ⟨fm, _, h.1, t, Nat.le_refl _, Or.inl ⟨rfl, hLw⟩, fun _ => ⟨s, hRN, Or.inl rfl⟩⟩
    · rw [if_neg c] at h
      rw [Int32.le_iff_toInt_le, hl, h6] at c
      obtain ⟨q1, w2, z, h⟩ := h
      have ev : vcl w v = vcl w0 v := by
        funext q
        exact vcl_FMv hS0 fm okv (by simp <;> omega) (by simp <;> omega) (by simp <;> omega) (by simp <;> omega) (by simp <;> omega) (by simp <;> omega) (by simp <;> omega) q
      have ee : eR w b t = eR w0 b t := by
        funext q
        unfold eR
        rw [FM_a fm (by simp <;> omega)]
      obtain ⟨a1, a2⟩ := RN_W hP9 hV hW t s (fun j hj => hA j (by omega)) hRN
      obtain ⟨f2, o, act, alt⟩ := F75 hS (by decide +kernel) okr hb okv hva hC hP9 (by omega) a1 h6 (by omega) (by rw [ee]; exact hA t (by omega)) z
      rw [ev, ee] at act
      have fm2 : FM [(33, 1), (33, 2)] [39, 40, 41] w0 w2 := FM_trans fm (FM_mono f2 (by decide) (by decide))
      have S2 : SK w2 := f2.2.2.2
      rcases alt with ⟨o0, q0⟩ | ⟨D', G', M', N', o1, q1', hC'⟩
      · have h := h _ q0 S2
        rw [if_pos rfl] at h
        rw [h.2]
        exact ⟨fm2, _, h.1, t, by omega, Or.inl ⟨rfl, hLw⟩, fun _ => ⟨s, hRN, Or.inr ⟨by omega, by rw [← o0]; exact act⟩⟩⟩
      · have h := h _ q1' S2
        rw [if_neg (by decide +kernel)] at h
        obtain ⟨q4, w5, y, h5⟩ := h
        have rn1 : RN P (vcl w0 v) (eR w0 b) (t + 1) s0 (D', G', M', N') := ⟨s, hRN, by rw [← o1]; exact act⟩
        obtain ⟨b1, _⟩ := RN_W hP9 hV hW (t + 1) _ (fun j hj => hA j (by omega)) rn1
        have bd : ∀ q, 0 ≤ (D' q).toInt ∧ (D' q).toInt ≤ 99 := b1.1.1
        have hd : dA w2 33 = D' := hC'.2.2.1
        have g0 : gR w2 33 0 = v := hC'.1
        have gs : gI w2 v 1 = sl := by rw [FM_i fm2 (by simp <;> omega)]; exact hsl
        obtain ⟨e5, alt⟩ := F92 (P := P) S2 (by decide +kernel) (by rw [g0]; exact hC'.2.1) hP9 (by rw [hd]; exact bd) y
        subst e5
        rw [g0, gs, hd] at alt
        have e1 : (i6 + 1).toInt = ((t + 1 : Nat) : Int) := by rw [zi_inc (n := 40) (by omega) (by omega), h6]; rfl
        rcases alt with ⟨x1, x2⟩ | ⟨x1, x2⟩
        · have h := h5 _ x2 S2
          rw [if_neg (by decide +kernel)] at h
          refine ih (t + 1) w5 (i6 + 1) (D', G', M', N') fm2 hS0 e1 (by omega) rn1 hC' (fun j hj => ?_) h
          by_cases jt : j = t
          · subst jt
            exact ⟨_, rn1, x1⟩
          · exact hLw j (by omega)
        · have h := h5 _ x2 S2
          rw [if_pos rfl] at h
          rw [h.2]
          refine ⟨fm2, _, h.1, t + 1, by omega, Or.inr ⟨t, by omega, h6, ⟨_, rn1, x1⟩, hLw⟩, fun e => ?_⟩
          rw [e] at h6
          exact absurd h6 (by rw [show (-1 : Int32).toInt = -1 from by decide +kernel]; omega)
def HOU (a : Nat → Int32) (p1 p2 : Int32) (G : Nat → Int32) (z : Int32) : Prop := ∃ (u rr : Nat), p1.toInt = u ∧ u < (a 0).toInt.toNat ∧ p2.toInt = rr ∧ rr < (a 1).toInt.toNat ∧ HW (Pof a u) (Vof a u) (Eof a rr) (a (612 + 132 * u)) (s00 G) (a (874 + 272 * rr)).toInt.toNat z
theorem HOU_2 (hV : VAa a) (h1 : HOU a p1 p2 G1 z1) (h2 : HOU a p1 p2 G2 z2) : z1 = z2 := by
  obtain ⟨u, rr, a1, a2, a3, a4, a5⟩ := h1
  obtain ⟨u', rr', b1, b2, b3, b4, b5⟩ := h2
  have e1 : u' = u := by omega
  have e2 : rr' = rr := by omega
  subst e1
  subst e2
  obtain ⟨v1, _, v3, v2, v4⟩ := VA_v hV a2
  exact HW_uq v1 v2 LSt_00 (fun j hj => VA_e hV a4 hj) a5 b5
theorem F91 (h3 : RL3 w) (h : PS X k 91 0 [.ref 0, .int p1, .int p2, pm_dead, pm_dead, pm_dead] [] w r w') : SK w' ∧ al w' = al w ∧ ((¬ VRt (al w) p1 p2 ∧ r = some (.int (-1))) ∨ (VRt (al w) p1 p2 ∧ ∃ z : Int32, r = some (.int z) ∧ HOU (al w) p1 p2 (gAr w 33) z)) := by
  obtain ⟨⟨hS, hT, hI⟩, hV⟩ := h3
  have hT' := hT
  obtain ⟨⟨r1, r2, r3, r4, _, _, r7⟩, t1, t2, _, _, _, _, _, t8⟩ := hT
  cases k with
  | zero => exact (PS_0 h).elim
  | succ k =>
    obtain ⟨q1, w2, z, hn, hr⟩ := U91_0 hS h
    obtain ⟨e2, z⟩ := F60 (V := (al w 0).toInt.toNat) hS (by rw [t1]; omega) (by omega) z
    subst e2
    rcases z with ⟨z1, z2⟩ | ⟨u, hu, hu2, z1⟩
    · obtain ⟨q4, w5, y, y1, y2⟩ := hn z1 hS
      obtain ⟨e5, y⟩ := F67 (V := (al w2 1).toInt.toNat) hS (by rw [t2]; omega) (by omega) y
      subst e5
      rcases y with ⟨y, _⟩ | ⟨rr, _, _, y⟩
      · obtain ⟨x1, x2⟩ := y1 y hS
        rw [x2]
        exact ⟨hS, rfl, Or.inl ⟨fun c => z2 c.1, x1⟩⟩
      · obtain ⟨x1, x2⟩ := y2 _ y hS
        rw [x2]
        exact ⟨hS, rfl, Or.inl ⟨fun c => z2 c.1, x1⟩⟩
    · obtain ⟨q4, w5, y, y1, y2⟩ := hr _ z1 hS
      obtain ⟨e5, y⟩ := F67 (V := (al w2 1).toInt.toNat) hS (by rw [t2]; omega) (by omega) y
      subst e5
      rcases y with ⟨y, y3⟩ | ⟨rr, hrr, hrr2, y⟩
      · obtain ⟨x1, x2⟩ := y1 y hS
        rw [x2]
        exact ⟨hS, rfl, Or.inl ⟨fun c => y3 c.2, x1⟩⟩
      · obtain ⟨q7, w7, y7, hz⟩ := y2 _ y hS
        obtain ⟨u1, g0, _, g3, _, _⟩ := VT hS hT' hu2
        obtain ⟨v1, _, v3, v2, _⟩ := VA_v hV hu2
        obtain ⟨y8, f5, c1, c2, c3, c4⟩ := F74 hS y7
        have S5 : SK w7 := f5.2.2.2
        have hz := hz y8 S5
        have okv := okV_n u1
        have eg : gAr w7 33 = gAr w5 33 := by funext q; unfold gAr; rw [FM_a f5 (by decide)]
        have hC : CSt w7 33 (5 + 5 * u) (Pof (al w5) u) (fun _ => 0) (gAr w5 33) 0 0 := ⟨c1, by rw [FM_i f5 (by simp; omega), g0]; exact v3, c4, eg, c2, by rw [c3]; exact z32⟩
        obtain ⟨b1, b2⟩ := r7 rr hrr2
        obtain ⟨s1, s2⟩ := t8 rr hrr2
        have rr2 : rr ≤ 2 := by omega
        have el : (gI w7 (15 + 2 * rr) 0).toInt = ((al w5 (874 + 272 * rr)).toInt.toNat : Nat) := by
          rw [FM_i f5 (by simp; omega), show gI w5 (15 + 2 * rr) 0 = al w5 (874 + 272 * rr) from s1]; omega
        cases k with
        | zero => exact (PS_0 hz).elim
        | succ k =>
          have eE : ∀ j, j < (al w5 (874 + 272 * rr)).toInt.toNat → ∀ t, t < 9 → Eof (al w5) rr j t = eR w7 (15 + 2 * rr) j t := by
            intro j hj t ht
            have z := s2 (9 * j + t) (by omega)
            unfold eR Eof
            rw [FM_a f5 (by simp <;> omega), show 874 + 272 * rr + 1 + 9 * j + t = 874 + 272 * rr + 1 + (9 * j + t) by omega, ← z]
            rw [show 1 + 15 + 2 * rr = 15 + 2 * rr + 1 by omega]
          have eVV : ∀ q, q < 130 → al w5 (610 + 132 * u + q) = vcl w7 (5 + 5 * u) q := by
            intro q hq
            rw [vcl_FMv hS f5 okv (by simp <;> omega) (by simp <;> omega) (by simp <;> omega) (by simp <;> omega) (by simp <;> omega) (by simp <;> omega) (by simp <;> omega)]
            exact (hT'.2.2.2.2.2.2.2.1 u hu2 q hq).symm
          have eV : ∀ q, q < 81 → Vof (al w5) u (3 + q) = vcl w7 (5 + 5 * u) (3 + q) := fun q hq => eVV (3 + q) (by omega)
          have esl : gI w7 (5 + 5 * u) 1 = al w5 (612 + 132 * u) := by
            rw [FM_i f5 (by simp <;> omega)]
            exact g3
          obtain ⟨f6, z, x1, x2⟩ := F91_41 (s0 := s00 (gAr w5 33)) (by omega) (okR_n rr2) okv (by omega) v1 (fun q hq => by rw [← eV q hq]; exact v2 q hq) el (by omega) (fun j hj => VAc_cg (VA_e hV hrr2 hj) (fun t ht => (eE j hj t ht).symm)) WS_00 rfl esl _ 0 w7 0 (s00 (gAr w5 33)) (FM_refl S5) S5 z32 (Nat.zero_le _) rfl hC (fun j hj => absurd hj (Nat.not_lt_zero j)) hz
          refine ⟨f6.2.2.2, ?_, Or.inr ⟨⟨⟨by omega, by omega⟩, by omega, by omega⟩, z, x1, u, rr, hu, hu2, hrr, hrr2, HW_cg eV v1 (fun j hj => eE j hj) x2⟩⟩
          funext q
          unfold al
          rw [FM_a f6 (by simp), FM_a f5 (by simp)]
/-- hour -/
theorem RC_9 (h3 : RL3 w) (h1 : PS X k 91 0 [.ref 0, .int p1, .int p2, pm_dead, pm_dead, pm_dead] [] w r w1) (h2 : PS X k2 243 0 [.ref 147, .int p1, .int p2, pm_dead] [] w1 r2 w2) : r2 = r := by
  obtain ⟨S1, ea, alt⟩ := F91 h3 h1
  have hA : RA (al w1) := by rw [ea]; exact h3.1.2.1.1
  have hV : VAa (al w1) := by rw [ea]; exact h3.2
  cases k2 with
  | zero => exact (PS_0 h2).elim
  | succ k2 =>
    obtain ⟨q1, w3, z, h2⟩ := U243_0 S1 h2
    obtain ⟨e3, z⟩ := F227 S1 hA z
    rw [ea] at z
    rcases z with ⟨z1, z2⟩ | ⟨z1, z2⟩
    · rcases alt with ⟨y, _⟩ | ⟨_, zz, x2, x3⟩
      · exact absurd z1 y
      · have h2 := h2 _ z2 (by rw [e3]; exact S1)
        rw [if_neg (by decide +kernel), e3] at h2
        obtain ⟨⟨c1, c2⟩, c3, c4⟩ := z1
        obtain ⟨u, hu⟩ : ∃ u : Nat, p1.toInt = u := ⟨p1.toInt.toNat, by omega⟩
        obtain ⟨rr, hr⟩ : ∃ rr : Nat, p2.toInt = rr := ⟨p2.toInt.toNat, by omega⟩
        have u1 : u ≤ 1 := by have := h3.1.2.1.1.2.1; omega
        have h2 := use_p S1 h2 (fun _ _ y => F217v S1 hu u1 y)
        obtain ⟨q5, w5, y5, h2⟩ := h2
        obtain ⟨b1, b2⟩ := h3.1.2.1.1.2.2.2.2.2.2 rr (by omega)
        obtain ⟨f7, t, s, z5, e1, e2, rn, ht, alt⟩ := F228 (u := u) (rr := rr) (n := 99) S1 hA hV (by rw [ea]; omega) (plV hu u1) hr (by rw [ea]; omega) (by decide +kernel) y5
        rw [ea] at rn alt ht
        have h2 := h2 _ e2 f7.2.2.2
        have st : HOU (al w) p1 p2 (gRr w1) (gI w5 147 16) := by
          refine ⟨u, rr, hu, by omega, hr, by omega, t, ?_, ht, fun _ => ⟨s, rn, ?_⟩⟩
          · rcases alt with ⟨_, _, y, _⟩ | ⟨_, y, _⟩
            · exact y
            · omega
          · rcases alt with ⟨y1, y2, y3, _⟩ | ⟨_, y, y'⟩
            · exact Or.inl (by omega)
            · exact Or.inr ⟨y, y'⟩
        have e := HOU_2 h3.2 x3 st
        by_cases c0 : z5 ≤ 0
        · rw [if_pos c0] at h2
          rw [Int32.le_iff_toInt_le, e1, z32] at c0
          have t0 : t = 0 := by omega
          rcases ht with ⟨y, _⟩ | ⟨j, y, _⟩
          · rw [h2.1, x2, e, y]
          · omega
        · rw [if_neg c0] at h2
          rw [h2.1, x2, e]
    · rcases alt with ⟨_, y⟩ | ⟨y, _⟩
      · have h2 := h2 _ z2 (by rw [e3]; exact S1)
        rw [if_pos rfl] at h2
        rw [h2.1, y]
      · exact absurd y z1
end HQH
