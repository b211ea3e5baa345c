/-! ===== an act played (the reference), as ACT has it ===== -/
section HD
variable {X : pm_X} {k k2 : Nat} {w0 w w1 w2 w' : pm_W} {r r2 : Option Value} {p p1 p2 p3 p4 p5 f0 p0 f q M nn : Int32} {n i v j m T L u a c N K P t s b Q : Nat} {D D' G G1 G2 V E : Nat → Int32}
/-- the reference's state -/
def RSt (w : pm_W) (D G : Nat → Int32) (M : Int32) (N : Nat) : Prop := dR w = D ∧ gRr w = G ∧ gI w 147 15 = M ∧ (gI w 147 14).toInt = N
theorem dR_81 (hS : SK w) {q : Nat} (h : 81 ≤ q) : dR w q = 0 := by
  unfold dR
  rw [List.getD_eq_getElem?_getD, List.getElem?_eq_none (by rw [SK_len hS (a := 152) (n := 81) (by decide +kernel) (by decide)]; exact h)]
  rfl
theorem sub_an {x y : Int32} : x + -y = x - y := by
  apply Int32.toBitVec_inj.mp
  show x.toBitVec + -y.toBitVec = x.toBitVec - y.toBitVec
  exact (BitVec.sub_eq_add_neg _ _).symm
theorem F232n {x y : Nat} (hS : SK w) (h1 : p1.toInt = x) (h2 : p2.toInt = y) (hx : x < 9) (hy : y < 9) (h : PS X k 232 0 [.ref 147, .int p1, .int p2] [] w r w') : r = some (.int (dR w (9 * x + y))) ∧ w' = w := by
  cases k with
  | zero => exact (PS_0 h).elim
  | succ k =>
    obtain ⟨_, z1, z2⟩ := U232_0 hS h
    rw [aG_n (m := 9 * x + y) (by rw [zi_add (zi_mul nine32 h1 (by omega) (by omega)) h2 (by omega) (by omega)]; omega)] at z1
    exact ⟨z1, z2⟩
theorem stD_hi (hP : P ≤ 9) (hR : WRg P G K) {q : Nat} (hq : 81 ≤ q) : ∀ i, i ≤ rMy G K → stD G K i D q = D q
  | 0, _ => rfl
  | i + 1, hi => by
    have w1 := WR_who hR (i := i) (by omega)
    have w2 := WR_nx hR (i := i) (by omega)
    show (if q = rCl G K i then subZ (stD G K i D (rCl G K i)) (G (10 * K + 1)) else stD G K i D q) = D q
    rw [if_neg (by unfold rCl; omega)]
    exact stD_hi hP hR hq i (by omega)
theorem flS_hi {c : (Nat → Int32) → Nat → Bool} {s : (Nat → Int32) × (Nat → Int32)} (hP : P ≤ 9) (hW : WS P N s) {q : Nat} (hq : 81 ≤ q) : ∀ n, n ≤ N → (flS c n s).1 q = s.1 q
  | 0, _ => rfl
  | n + 1, hn => by
    have z := flS_hi (c := c) hP hW hq n (by omega)
    have hw := WS_flS (c := c) hP hW n (by omega)
    show (cond (c (flS c n s).2 n) (strk n (flS c n s)) (flS c n s)).1 q = s.1 q
    cases c (flS c n s).2 n with
    | true =>
      rw [← z]
      exact stD_hi hP (hw.2 n (by omega)) hq _ (Nat.le_refl _)
    | false => exact z
theorem F230_e {i1 i2 i3 i4 i5 i6 : Int32} (hS : SK w) (h : PS X k 230 95 [.ref 147, .int i1, .int i2, .int i3, .int i4, .int i5, .int i6] [] w r w') : r = some (.int 0) ∧ w' = w := by
  cases k with
  | zero => exact (PS_0 h).elim
  | succ k => exact U230_95 hS h
theorem F230_z {i1 i2 i3 i4 : Int32} (hS : SK w) (h : PS X k 230 162 [.ref 147, .int i1, .int i2, .int i3, .int i4, pm_dead, pm_dead] [] w r w') : r = some (.int 0) ∧ w' = w := by
  cases k with
  | zero => exact (PS_0 h).elim
  | succ k => exact U230_162 hS h
theorem F230_o {i1 i2 i3 i4 : Int32} (hS : SK w) (h : PS X k 230 203 [.ref 147, .int i1, .int i2, .int i3, .int i4, pm_dead, pm_dead] [] w r w') : r = some (.int 1) ∧ w' = w := by
  cases k with
  | zero => exact (PS_0 h).elim
  | succ k => exact U230_203 hS h
theorem F230 (hS : SK w) (hu : u ≤ 1) (hp : p1.toInt = (610 + 132 * u : Nat)) (hP : (al w (610 + 132 * u)).toInt = P) (hP9 : P ≤ 9) (hQ : p2.toInt = Q) (hQ2 : Q ≤ 6000) (hR : RSt w D G M N) (hN : N < 37) (hW : WS P N (D, G)) (hA : VAc (eL w Q)) (h : PS X k 230 0 [.ref 147, .int p1, .int p2, pm_dead, pm_dead, pm_dead, pm_dead] [] w r w') : FM [(147, 14), (147, 15)] [152, 153] w w' ∧ ∃ o : AO, ACT P (fun k => al w (610 + 132 * u + k)) (eL w Q) D G M N o ∧ ((o = none ∧ r = some (.int 0)) ∨ (∃ (D' G' : Nat → Int32) (M' : Int32) (N' : Nat), o = some (D', G', M', N') ∧ r = some (.int 1) ∧ RSt w' D' G' M' N')) := by
  obtain ⟨hD, hG, hM, hN0⟩ := hR
  have hWs : WS P N (sR2 w) := by unfold sR2; rw [hD, hG]; exact hW
  have ew : sR2 w = (D, G) := by unfold sR2; rw [hD, hG]
  have e8 : ∀ {z : Int32}, 0 ≤ z.toInt → z.toInt = z.toInt.toNat := fun h => by omega
  have q0 : aG w 148 p2 = eL w Q 0 := aG_L (by rw [hQ]; rfl)
  have q1 : aG w 148 (p2 + 1) = eL w Q 1 := aG_L (by rw [zi_add hQ o32 (by omega) (by omega)]; rfl)
  have q2 : aG w 148 (p2 + 2) = eL w Q 2 := aG_L (by rw [zi_add hQ two32 (by omega) (by omega)]; rfl)
  have q3 : aG w 148 (p2 + 3) = eL w Q 3 := aG_L (by rw [zi_add hQ three32 (by omega) (by omega)]; rfl)
  have kp : ∀ {fs : List (Nat × Nat)} {as : List Nat} {D' G' : Nat → Int32}, FM fs as w w' → (147, 14) ∉ fs → (147, 15) ∉ fs → dR w' = D' → gRr w' = G' → RSt w' D' G' M N := fun fm y0 y1 hd hg => ⟨hd, hg, by rw [FM_i fm y1]; exact hM, by rw [FM_i fm y0]; exact hN0⟩
  cases k with
  | zero => exact (PS_0 h).elim
  | succ k =>
    obtain ⟨_, _, h⟩ := U230_0 hS h
    rw [q0, q1] at h
    rcases hA with ⟨h01, a1, a2, a3, a4, a5, a6, a7⟩ | ⟨h0, a1, a2, a3, a4, m, m2, m6, b1, b2, b3⟩ | ⟨h0, a1, a2⟩ | ⟨h0, a1, a2⟩ | h0
    · -- owe, pay
      have h26 : PS X k 230 26 [.ref 147, .int p1, .int p2, .int (eL w Q 0), .int (eL w Q 1), pm_dead, pm_dead] [] w r w' := by
        rcases h01 with h0 | h0
        · rw [if_pos h0] at h; exact h
        · rw [if_neg (by rw [h0]; decide +kernel), if_pos h0] at h; exact h
      clear h
      cases k with
      | zero => exact (PS_0 h26).elim
      | succ k =>
        obtain ⟨_, _, h⟩ := U230_26 hS h26
        rw [q2, q3] at h
        have h := use_p hS h (fun _ _ z => F221n (m := 610 + 132 * u) (L := P) hS hp hP (by omega) z)
        have ei : (9 * eL w Q 1 + eL w Q 2).toInt = (9 * (eL w Q 1).toInt.toNat + (eL w Q 2).toInt.toNat : Nat) := by
          rw [zi_add (zi_mul nine32 (e8 a1) (by omega) (by omega)) (e8 a3) (by omega) (by omega)]
          omega
        have ed : aG w 152 (9 * eL w Q 1 + eL w Q 2) = D (9 * (eL w Q 1).toInt.toNat + (eL w Q 2).toInt.toNat) := by
          rw [aG_n (m := 9 * (eL w Q 1).toInt.toNat + (eL w Q 2).toInt.toNat) ei, ← hD]
          rfl
        have no : (o : AO) → ACT P (fun k => al w (610 + 132 * u + k)) (eL w Q) D G M N o → o = none → r = some (.int 0) ∧ w' = w → FM [(147, 14), (147, 15)] [152, 153] w w' ∧ ∃ o : AO, ACT P (fun k => al w (610 + 132 * u + k)) (eL w Q) D G M N o ∧ ((o = none ∧ r = some (.int 0)) ∨ (∃ (D' G' : Nat → Int32) (M' : Int32) (N' : Nat), o = some (D', G', M', N') ∧ r = some (.int 1) ∧ RSt w' D' G' M' N')) := by
          intro o ho hn hz
          rw [hz.2]
          exact ⟨FM_refl hS, o, ho, Or.inl ⟨hn, hz.1⟩⟩
        by_cases d1 : 0 ≤ (eL w Q 1).toInt ∧ (eL w Q 1).toInt < P
        · have h := ifb_t d1 h
          have h := use_p hS h (fun _ _ z => F221n (m := 610 + 132 * u) (L := P) hS hp hP (by omega) z)
          by_cases d2 : 0 ≤ (eL w Q 2).toInt ∧ (eL w Q 2).toInt < P
          · have h := ifb_t d2 h
            rcases h01 with h0 | h0
            · rw [if_pos h0] at h
              have h := use_p hS h (fun _ _ z => F231n hS hp hu (e8 a1) (e8 a3) (by omega) (by omega) z)
              rw [hD] at h
              by_cases d3 : eL w Q 3 ≤ rmI (fun k => al w (610 + 132 * u + k)) D (eL w Q 1).toInt.toNat (eL w Q 2).toInt.toNat
              · rw [if_pos d3, if_pos h0] at h
                rw [Int32.le_iff_toInt_le] at d3
                obtain ⟨_, _, h⟩ := h
                have h := h _ rfl
                rw [ed] at h
                have fm : FM [] [152, 153] w w' := by rw [h.2]; exact FM_aS hS (by decide)
                refine ⟨FM_mono fm (by intro z hz; cases hz) (by decide), _, Or.inl ⟨h0, _, _, e8 a1, e8 a3, Or.inl ⟨by omega, by omega, d3, rfl⟩⟩, Or.inr ⟨_, _, _, _, rfl, h.1, kp fm (by intro z; cases z) (by intro z; cases z) ?_ ?_⟩⟩
                · rw [h.2, dR_aS hS ei (by omega), hD]
                · rw [h.2, gRr_ne (by decide)]; exact hG
              · rw [if_neg d3] at h
                rw [Int32.le_iff_toInt_le] at d3
                exact no none (Or.inl ⟨h0, _, _, e8 a1, e8 a3, Or.inr ⟨fun z => d3 z.2.2, rfl⟩⟩) rfl (F230_e hS h)
            · have n0 : ¬ eL w Q 0 = 0 := by rw [h0]; decide +kernel
              rw [if_neg n0] at h
              have h := use_p hS h (fun _ _ z => F232n hS (e8 a1) (e8 a3) (by omega) (by omega) z)
              rw [hD] at h
              by_cases d3 : eL w Q 3 ≤ D (9 * (eL w Q 1).toInt.toNat + (eL w Q 2).toInt.toNat)
              · rw [if_pos d3, if_neg n0] at h
                rw [Int32.le_iff_toInt_le] at d3
                obtain ⟨_, _, h⟩ := h
                have h := h _ rfl
                rw [ed, sub_an] at h
                have fm : FM [] [152, 153] w w' := by rw [h.2]; exact FM_aS hS (by decide)
                refine ⟨FM_mono fm (by intro z hz; cases hz) (by decide), _, Or.inr (Or.inl ⟨h0, _, _, e8 a1, e8 a3, Or.inl ⟨by omega, by omega, d3, rfl⟩⟩), Or.inr ⟨_, _, _, _, rfl, h.1, kp fm (by intro z; cases z) (by intro z; cases z) ?_ ?_⟩⟩
                · rw [h.2, dR_aS hS ei (by omega), hD]
                · rw [h.2, gRr_ne (by decide)]; exact hG
              · rw [if_neg d3] at h
                rw [Int32.le_iff_toInt_le] at d3
                exact no none (Or.inr (Or.inl ⟨h0, _, _, e8 a1, e8 a3, Or.inr ⟨fun z => d3 z.2.2, rfl⟩⟩)) rfl (F230_e hS h)
          · have h := ifb_f d2 h
            rcases h01 with h0 | h0
            · exact no none (Or.inl ⟨h0, _, _, e8 a1, e8 a3, Or.inr ⟨fun z => by have := z.2.1; omega, rfl⟩⟩) rfl (F230_e hS h)
            · exact no none (Or.inr (Or.inl ⟨h0, _, _, e8 a1, e8 a3, Or.inr ⟨fun z => by have := z.2.1; omega, rfl⟩⟩)) rfl (F230_e hS h)
        · have h := ifb_f d1 h
          rcases h01 with h0 | h0
          · exact no none (Or.inl ⟨h0, _, _, e8 a1, e8 a3, Or.inr ⟨fun z => by have := z.1; omega, rfl⟩⟩) rfl (F230_e hS h)
          · exact no none (Or.inr (Or.inl ⟨h0, _, _, e8 a1, e8 a3, Or.inr ⟨fun z => by have := z.1; omega, rfl⟩⟩)) rfl (F230_e hS h)
    · rw [if_neg (by rw [h0]; decide +kernel), if_neg (by rw [h0]; decide +kernel), if_pos h0] at h
      have hE : ERg (eL w Q) m := ⟨m2, m6, b1, b2, b3⟩
      obtain ⟨r13, w14, y1, h⟩ := h
      rcases F233 hS hu hp hP hP9 hQ hQ2 hE ⟨by omega, a2⟩ ⟨a3, a4⟩ hN hN0 y1 with ⟨y2, y3, y4, y5, y6, y7⟩ | ⟨y2, y3, y4⟩
      · obtain ⟨z1, z2⟩ := h 1 y3 y4.2.2.2
        subst w'
        rw [hD] at y2 y6
        rw [hG] at y7
        refine ⟨FM_mono y4 (by decide) (by decide), _, Or.inr (Or.inr (Or.inl ⟨h0, m, hE, Or.inl ⟨y2, rfl⟩⟩)), Or.inr ⟨_, _, _, _, rfl, z1, y6, y7, by rw [FM_i y4 (by decide)]; exact hM, y5⟩⟩
      · subst w14
        obtain ⟨z1, z2⟩ := h 0 y3 hS
        subst w'
        rw [hD] at y2
        exact ⟨FM_refl hS, none, Or.inr (Or.inr (Or.inl ⟨h0, m, hE, Or.inr ⟨y2, rfl⟩⟩)), Or.inl ⟨rfl, z1⟩⟩
    · rw [if_neg (by rw [h0]; decide +kernel), if_neg (by rw [h0]; decide +kernel), if_neg (by rw [h0]; decide +kernel), if_pos h0] at h
      by_cases c : gI w 147 14 ≤ eL w Q 1
      · rw [if_pos c] at h
        rw [Int32.le_iff_toInt_le, hN0] at c
        obtain ⟨z1, z2⟩ := F230_z hS h
        subst w'
        exact ⟨FM_refl hS, none, Or.inr (Or.inr (Or.inr (Or.inl ⟨h0, _, e8 a1, Or.inr ⟨fun z => by have := z.1; omega, rfl⟩⟩))), Or.inl ⟨rfl, z1⟩⟩
      · rw [if_neg c] at h
        rw [Int32.le_iff_toInt_le, hN0] at c
        have h := use_p hS h (fun _ _ z => F236 hS (e8 a1) (by omega) z)
        rw [hG] at h
        cases ho : opn G (eL w Q 1).toInt.toNat with
        | false =>
          rw [ho, if_pos (by decide +kernel)] at h
          obtain ⟨z1, z2⟩ := F230_z hS h
          subst w'
          exact ⟨FM_refl hS, none, Or.inr (Or.inr (Or.inr (Or.inl ⟨h0, _, e8 a1, Or.inr ⟨fun z => by rw [ho] at z; exact Bool.noConfusion z.2, rfl⟩⟩))), Or.inl ⟨rfl, z1⟩⟩
        | true =>
          rw [ho, if_neg (by decide +kernel)] at h
          obtain ⟨r11, w12, y1, h⟩ := h
          obtain ⟨y2, y3, y4⟩ := F237s hS hP9 (e8 a1) (by omega) (by omega) hWs y1
          obtain ⟨z1, z2⟩ := F230_o y3.2.2.2 (h y2 y3.2.2.2)
          subst w'
          rw [ew] at y4
          exact ⟨FM_mono y3 (by intro z hz; cases hz) (by decide), _, Or.inr (Or.inr (Or.inr (Or.inl ⟨h0, _, e8 a1, Or.inl ⟨by omega, ho, rfl⟩⟩))), Or.inr ⟨_, _, _, _, rfl, z1, kp y3 (by intro z; cases z) (by intro z; cases z) (congrArg Prod.fst y4) (congrArg Prod.snd y4)⟩⟩
    · rw [if_neg (by rw [h0]; decide +kernel), if_neg (by rw [h0]; decide +kernel), if_neg (by rw [h0]; decide +kernel), if_neg (by rw [h0]; decide +kernel), if_pos h0] at h
      have h := use_p hS h (fun _ _ z => F221n (m := 610 + 132 * u) (L := P) hS hp hP (by omega) z)
      by_cases d1 : 0 ≤ (eL w Q 1).toInt ∧ (eL w Q 1).toInt < P
      · have h := ifb_t d1 h
        obtain ⟨r11, w12, y1, h⟩ := h
        obtain ⟨y2, y3, y4, y5⟩ := F238 hS hP9 (by omega) hWs hN0 (e8 a1) (by omega) y1
        obtain ⟨z1, z2⟩ := F230_o y3.2.2.2 (h y2 y3.2.2.2)
        subst w'
        rw [ew] at y4 y5
        have h81 : ∀ q, 81 ≤ q → (flS (cF (eL w Q 1).toInt.toNat) N (D, G)).1 q = 0 := fun q hq => by
          rw [flS_hi hP9 hW hq N (Nat.le_refl _)]
          show D q = 0
          rw [← hD]
          exact dR_81 hS hq
        rw [zrL_9 hP9 (by omega) (WS_flS hP9 hW N (Nat.le_refl _)).1 h81] at y4
        exact ⟨FM_mono y3 (by intro z hz; cases hz) (by decide), _, Or.inr (Or.inr (Or.inr (Or.inr (Or.inl ⟨h0, _, e8 a1, Or.inl ⟨by omega, rfl⟩⟩)))), Or.inr ⟨_, _, _, _, rfl, z1, kp y3 (by intro z; cases z) (by intro z; cases z) y4 y5⟩⟩
      · have h := ifb_f d1 h
        obtain ⟨z1, z2⟩ := h
        subst w'
        exact ⟨FM_refl hS, none, Or.inr (Or.inr (Or.inr (Or.inr (Or.inl ⟨h0, _, e8 a1, Or.inr ⟨by omega, rfl⟩⟩)))), Or.inl ⟨rfl, z1⟩⟩
    · rw [if_neg (by rw [h0]; decide +kernel), if_neg (by rw [h0]; decide +kernel), if_neg (by rw [h0]; decide +kernel), if_neg (by rw [h0]; decide +kernel), if_neg (by rw [h0]; decide +kernel)] at h
      obtain ⟨r11, w12, y1, h⟩ := h
      obtain ⟨y2, y3, y4, y5⟩ := F240 hS hP9 (by omega) hWs hN0 y1
      obtain ⟨z1, z2⟩ := F230_o y3.2.2.2 (h y2 y3.2.2.2)
      subst w'
      rw [hM] at y4 y5
      rw [ew] at y5
      exact ⟨FM_mono y3 (by decide) (by decide), _, Or.inr (Or.inr (Or.inr (Or.inr (Or.inr ⟨h0, rfl⟩)))), Or.inr ⟨_, _, _, _, rfl, z1, congrArg Prod.fst y5, congrArg Prod.snd y5, y4, by rw [FM_i y3 (by decide)]; exact hN0⟩⟩
end HD
