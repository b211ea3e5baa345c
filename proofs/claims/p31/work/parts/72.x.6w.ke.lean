/-! ===== state: debts parted, the reference; state on both sides ===== -/
section KEA
variable {X : pm_X} {k k2 : Nat} {w0 w w1 w2 w3 w4 w5 wj w' : pm_W} {r r2 q0 q1 : Option Value} {p1 p2 p3 p4 p5 i1 i2 i3 i4 i5 i6 i7 i8 z z1 z2 x n : Int32} {a i v j m u P t s b d q p f N K B : Nat} {y : Int} {D D' T V V' G G' : Nat → Int32} {e e' : Nat → Nat} {s1 t1 t2 : SN}
theorem F257f (hS : SK w) (h : PS X k 257 0 [.ref 147, .int (-1), pm_dead] [] w r w') : ((∃ (f : Nat) (z : Int32), r = some (.int z) ∧ z.toInt = f ∧ fsP (dR w) f) ∨ (r = some (.int (-1)) ∧ fsN (dR w))) ∧ w' = w := by
  have lp : ∀ (k t : Nat) (i2 : Int32), i2.toInt = t → t ≤ 81 → (∀ c, c < t → (dR w c).toInt ≤ 0) → PS X k 257 2 [.ref 147, .int (-1), .int i2] [] w r w' → ((∃ (f : Nat) (z : Int32), r = some (.int z) ∧ z.toInt = f ∧ fsP (dR w) f) ∨ (r = some (.int (-1)) ∧ fsN (dR w))) ∧ w' = w := by
    intro k
    induction k with
    | zero => intro t i2 _ _ _ h; exact (PS_0 h).elim
    | succ k ih =>
      intro t i2 h2 ht hz h
      have h := U257_2 hS h
      by_cases c : 81 ≤ i2
      · rw [if_pos c] at h
        rw [Int32.le_iff_toInt_le, e81i, h2] at c
        exact ⟨Or.inr ⟨h.1, fun p q hp hq => hz _ (by omega)⟩, h.2⟩
      · rw [if_neg c] at h
        rw [Int32.le_iff_toInt_le, e81i, h2] at c
        obtain ⟨_, h⟩ := h
        have v1 : aG w 152 i2 = dR w t := aG_n h2
        rw [v1] at h
        by_cases d1 : dR w t ≤ 0
        · rw [if_pos d1] at h
          rw [Int32.le_iff_toInt_le, z32] at d1
          refine ih (t + 1) _ (by rw [zi_inc (n := 100) (by omega) (by omega), h2]; rfl) (by omega) (fun q hq => ?_) h
          by_cases e : q = t
          · rw [e]; exact d1
          · exact hz q (by omega)
        · rw [if_neg d1, if_pos (by decide +kernel), if_neg (by decide +kernel)] at h
          rw [Int32.le_iff_toInt_le, z32] at d1
          refine ⟨Or.inl ⟨t / 9, _, h.1, zi_div h2 (b := 9) nine32, by omega, ⟨t % 9, by omega, ?_⟩, fun p' q hp hq => hz _ (by omega)⟩, h.2⟩
          rw [show 9 * (t / 9) + t % 9 = t by omega]
          omega
  cases k with
  | zero => exact (PS_0 h).elim
  | succ k => exact lp k 0 0 z32 (Nat.zero_le _) (fun q hq => absurd hq (Nat.not_lt_zero q)) (U257_0 hS h)
theorem F257p (hS : SK w) (h1 : p1.toInt = p) (hp : p < 9) (h : PS X k 257 0 [.ref 147, .int p1, pm_dead] [] w r w') : ((∃ (q : Nat) (z : Int32), r = some (.int z) ∧ z.toInt = q ∧ nxP (dR w) p q) ∨ (r = some (.int (-1)) ∧ nxN (dR w) p)) ∧ w' = w := by
  have n1 : ¬ p1 < 0 := by rw [Int32.lt_iff_toInt_lt, h1, z32]; omega
  have n2 : 0 ≤ p1 := by rw [Int32.le_iff_toInt_le, h1, z32]; omega
  have lp : ∀ (k t : Nat) (i2 : Int32), i2.toInt = t → t ≤ 81 → (∀ c, c < t → c / 9 = p → (dR w c).toInt ≤ 0) → PS X k 257 2 [.ref 147, .int p1, .int i2] [] w r w' → ((∃ (q : Nat) (z : Int32), r = some (.int z) ∧ z.toInt = q ∧ nxP (dR w) p q) ∨ (r = some (.int (-1)) ∧ nxN (dR w) p)) ∧ w' = w := by
    intro k
    induction k with
    | zero => intro t i2 _ _ _ h; exact (PS_0 h).elim
    | succ k ih =>
      intro t i2 h2 ht hz h
      have h := U257_2 hS h
      by_cases c : 81 ≤ i2
      · rw [if_pos c] at h
        rw [Int32.le_iff_toInt_le, e81i, h2] at c
        exact ⟨Or.inr ⟨h.1, fun q hq => hz _ (by omega) (by omega)⟩, h.2⟩
      · rw [if_neg c] at h
        rw [Int32.le_iff_toInt_le, e81i, h2] at c
        obtain ⟨_, h⟩ := h
        have v1 : aG w 152 i2 = dR w t := aG_n h2
        rw [v1] at h
        have e1 : (i2 + 1).toInt = ((t + 1 : Nat) : Int) := by rw [zi_inc (n := 100) (by omega) (by omega), h2]; rfl
        by_cases d1 : dR w t ≤ 0
        · rw [if_pos d1] at h
          rw [Int32.le_iff_toInt_le, z32] at d1
          refine ih (t + 1) _ e1 (by omega) (fun q hq hq9 => ?_) h
          by_cases e : q = t
          · rw [e]; exact d1
          · exact hz q (by omega) hq9
        · rw [if_neg d1, if_neg n1] at h
          rw [Int32.le_iff_toInt_le, z32] at d1
          have vd : (i2 / 9).toInt = (t / 9 : Nat) := zi_div h2 (b := 9) nine32
          by_cases d2 : i2 / 9 = p1
          · rw [if_pos d2, if_pos n2] at h
            have ep : t / 9 = p := by rw [d2, h1] at vd; omega
            refine ⟨Or.inl ⟨t % 9, _, h.1, zi_rem h2 (b := 9) nine32, by omega, ?_, fun q hq => hz _ (by omega) (by omega)⟩, h.2⟩
            rw [show 9 * p + t % 9 = t by omega]
            omega
          · rw [if_neg d2] at h
            have ep : t / 9 ≠ p := fun e => d2 (Int32.toInt_inj.mp (by rw [vd, h1, e]))
            refine ih (t + 1) _ e1 (by omega) (fun q hq hq9 => ?_) h
            by_cases e : q = t
            · rw [e] at hq9; exact absurd hq9 ep
            · exact hz q (by omega) hq9
  cases k with
  | zero => exact (PS_0 h).elim
  | succ k => exact lp k 0 0 z32 (Nat.zero_le _) (fun q hq => absurd hq (Nat.not_lt_zero q)) (U257_0 hS h)
theorem F256_151 (h154 : ∀ i, i ≤ m → ((gA w0 154).getD i 0).toInt = e i) (hW : WLK T f e m s) (h1 : i1.toInt = m) (hm : m ≤ 9) (hT : dR w0 = T) : ∀ (k t : Nat) (w : pm_W) (i4 : Int32), FM [] [152] w0 w → i4.toInt = (s + t : Nat) → s + t ≤ m → dR w = sbW T e s i3 t → PS X k 256 151 [.ref 147, .int i1, .int i2, .int i3, .int i4] [] w r w' → r = none ∧ FM [] [152] w0 w' ∧ dR w' = sbW T e s i3 (m - s) := by
  obtain ⟨⟨a0, a1, a2, a3⟩, sm, em⟩ := id hW
  intro k
  induction k with
  | zero => intro t w i4 _ _ _ _ h; exact (PS_0 h).elim
  | succ k ih =>
    intro t w i4 fm h4 ht hl h
    have hS : SK w := fm.2.2.2
    have h := U256_151 hS h
    by_cases c : i1 ≤ i4
    · rw [if_pos c] at h
      rw [Int32.le_iff_toInt_le, h1, h4] at c
      rw [h.2]
      exact ⟨h.1, fm, by rw [hl, show t = m - s by omega]⟩
    · rw [if_neg c] at h
      rw [Int32.le_iff_toInt_le, h1, h4] at c
      obtain ⟨_, _, _, _, h⟩ := h
      have h := h _ rfl
      have n1 := a1 (s + t) (by omega)
      have n2 := a1 (s + t + 1) (by omega)
      have e1 : (i4 + 1).toInt = ((s + t + 1 : Nat) : Int) := by rw [zi_inc (n := 100) (by omega) (by omega), h4]; rfl
      have v1 : (aG w 154 i4).toInt = e (s + t) := by rw [aG_n h4, FM_a fm (by decide)]; exact h154 (s + t) (by omega)
      have v2 : (aG w 154 (i4 + 1)).toInt = e (s + t + 1) := by rw [aG_n e1, FM_a fm (by decide)]; exact h154 (s + t + 1) (by omega)
      have vx : ((9 * aG w 154 i4) + aG w 154 (i4 + 1)).toInt = (9 * e (s + t) + e (s + t + 1) : Nat) := by rw [zi_add (zi_mul nine32 v1 (by omega) (by omega)) v2 (by omega) (by omega)]; omega
      refine ih (t + 1) _ _ (FM_trans fm (FM_aS hS (by decide))) (by rw [e1]; omega) (by omega) ?_ h
      rw [dR_aS hS vx (by omega), aG_n vx]
      show updc (dR w) (9 * e (s + t) + e (s + t + 1)) (dR w (9 * e (s + t) + e (s + t + 1)) - i3) = _
      rw [hl]
      rfl
theorem F256_82 (hS : SK w) (h154 : ∀ i, i ≤ m → ((gA w 154).getD i 0).toInt = e i) (hW : WLK T f e m s) (h1 : i1.toInt = m) (hm : m ≤ 9) (hs : (aG w 155 i2).toInt = s) (hT : dR w = T) : ∀ (k t : Nat) (i3 i4 : Int32), i4.toInt = (s + t : Nat) → s + t ≤ m → i3 = mnW T e s t → PS X k 256 82 [.ref 147, .int i1, .int i2, .int i3, .int i4] [] w r w' → r = none ∧ FM [] [152] w w' ∧ TKO T f (dR w') := by
  obtain ⟨⟨a0, a1, a2, a3⟩, sm, em⟩ := id hW
  intro k
  induction k with
  | zero => intro t i3 i4 _ _ _ h; exact (PS_0 h).elim
  | succ k ih =>
    intro t i3 i4 h4 ht h3 h
    have h := U256_82 hS h
    by_cases c : i1 ≤ i4
    · rw [if_pos c] at h
      rw [Int32.le_iff_toInt_le, h1, h4] at c
      obtain ⟨b1, b2, b3⟩ := F256_151 h154 hW h1 hm hT k 0 w _ (FM_refl hS) hs (by omega) (by rw [hT]; rfl) h.2
      rw [h3, show t = m - s by omega] at b3
      exact ⟨b1, b2, e, m, s, hW, b3⟩
    · rw [if_neg c] at h
      rw [Int32.le_iff_toInt_le, h1, h4] at c
      obtain ⟨_, _, h⟩ := h
      have n1 := a1 (s + t) (by omega)
      have n2 := a1 (s + t + 1) (by omega)
      have e1 : (i4 + 1).toInt = ((s + t + 1 : Nat) : Int) := by rw [zi_inc (n := 100) (by omega) (by omega), h4]; rfl
      have v1 : (aG w 154 i4).toInt = e (s + t) := by rw [aG_n h4]; exact h154 (s + t) (by omega)
      have v2 : (aG w 154 (i4 + 1)).toInt = e (s + t + 1) := by rw [aG_n e1]; exact h154 (s + t + 1) (by omega)
      have h := use_p hS h (fun _ _ y => F232n hS v1 v2 n1 n2 y)
      rw [hT] at h
      have s1 : mnW T e s (t + 1) = if T (9 * e (s + t) + e (s + t + 1)) < mnW T e s t then T (9 * e (s + t) + e (s + t + 1)) else mnW T e s t := rfl
      have e2 : (i4 + 1).toInt = ((s + (t + 1) : Nat) : Int) := by rw [e1]; omega
      by_cases c2 : i3 ≤ T (9 * e (s + t) + e (s + t + 1))
      · rw [if_pos c2] at h
        rw [Int32.le_iff_toInt_le, h3] at c2
        exact ih (t + 1) _ _ e2 (by omega) (by rw [s1, if_neg (by rw [Int32.lt_iff_toInt_lt]; omega)]; exact h3) h
      · rw [if_neg c2] at h
        rw [Int32.le_iff_toInt_le, h3] at c2
        obtain ⟨_, _, h⟩ := h
        have h := use_p hS h (fun _ _ y => F232n hS v1 v2 n1 n2 y)
        rw [hT] at h
        exact ih (t + 1) _ _ e2 (by omega) (by rw [s1, if_pos (by rw [Int32.lt_iff_toInt_lt]; omega)]) h
theorem F256_29i (hS : SK w) (h : PS X k 256 29 [.ref 147, .int i1, .int i2, pm_dead, pm_dead] [] w r w') : 0 ≤ i2.toInt := by
  cases k with
  | zero => exact (PS_0 h).elim
  | succ k => exact (U256_29 hS h).1.1
theorem F256 (hS : SK w) (h : PS X k 256 0 [.ref 147, pm_dead, pm_dead, pm_dead, pm_dead] [] w r w') : r = none ∧ FM [] [152, 154, 155] w w' ∧ stR (dR w) (dR w') := by
  have e9 : (9 : Int32).toInt = 9 := nine32
  have l155 : ∀ w : pm_W, SK w → (gA w 155).length = 9 := fun w S => SK_len S (a := 155) (n := 9) (by decide +kernel) (by decide)
  have aS155 : ∀ (w : pm_W) (i1 x : Int32) (d : Nat), SK w → i1.toInt = d → d < 9 → ∀ i, (gA (aS w 155 i1 x) 155).getD i 0 = if i = d then x else (gA w 155).getD i 0 := fun w i1 x d S hx hd i => by
    rw [gA_aS (SK_isA S (by decide +kernel)), i_nat hx, getD_set (by rw [l155 w S]; exact hd)]
  have aS154 : ∀ (w : pm_W) (i1 x : Int32) (d : Nat), SK w → i1.toInt = d → aI w 154 i1 → ∀ i, (gA (aS w 154 i1 x) 154).getD i 0 = if i = d then x else (gA w 154).getD i 0 := fun w i1 x d S hx hd i => by
    have hd2 : i1.toInt < ((gA w 154).length : Nat) := hd.2
    rw [gA_aS (SK_isA S (by decide +kernel)), i_nat hx, getD_set (by omega)]
  have lp : ∀ (f : Nat), fsP (dR w) f → ∀ (k m : Nat) (wk : pm_W) (i1 i2 : Int32) (e : Nat → Nat), FM [] [154, 155] w wk → wkP (dR w) f e m → i2.toInt = e m → i1.toInt = m → m ≤ 9 → (∀ i, i < m → ((gA wk 154).getD i 0).toInt = e i) → (∀ q, q < 9 → (∃ i, i < m ∧ e i = q ∧ ((gA wk 155).getD q 0).toInt = i) ∨ ((∀ i, i < m → e i ≠ q) ∧ (gA wk 155).getD q 0 = -1)) → PS X k 256 29 [.ref 147, .int i1, .int i2, pm_dead, pm_dead] [] wk r w' → r = none ∧ FM [] [152, 154, 155] w w' ∧ TKO (dR w) f (dR w') := by
    intro f hf k
    induction k with
    | zero => intro m wk i1 i2 e _ _ _ _ _ _ _ h; exact (PS_0 h).elim
    | succ k ih =>
      intro m wk i1 i2 e fm hw h2 h1 hm h154 h155 h
      have S1 : SK wk := fm.2.2.2
      have dT : dR wk = dR w := by funext q; unfold dR; rw [FM_a fm (by decide)]
      have e9m := hw.2.1 m (Nat.le_refl m)
      obtain ⟨_, h⟩ := U256_29 S1 h
      have vg : aG wk 155 i2 = (gA wk 155).getD (e m) 0 := aG_n h2
      rw [vg] at h
      rcases h155 (e m) e9m with ⟨i, hi, b1, b2⟩ | ⟨b1, b2⟩
      · rw [if_pos (by rw [Int32.le_iff_toInt_le, b2, z32]; omega)] at h
        obtain ⟨ai, h⟩ := h
        obtain ⟨_, h⟩ := h _ rfl
        have f2 : FM [] [154, 155] wk (aS wk 154 i1 i2) := FM_aS S1 (by decide)
        have S2 := f2.2.2.2
        have a154 := aS154 wk i1 i2 m S1 h1 ai
        have g155 : aG (aS wk 154 i1 i2) 155 i2 = (gA wk 155).getD (e m) 0 := by rw [aG_n h2, gA_aS_ne (by decide)]
        rw [g155] at h
        obtain ⟨c1, c2, c3⟩ := F256_82 (T := dR w) (f := f) (e := e) (m := m) (s := i) S2 (fun j hj => by
          rw [a154 j]
          by_cases ej : j = m
          · rw [if_pos ej, ej]; exact h2
          · rw [if_neg ej]; exact h154 j (by omega)) ⟨hw, hi, b1.symm⟩ h1 hm (by rw [g155]; exact b2) (by rw [dR_ne (by decide)]; exact dT) k 0 1000000 _ b2 (by omega) rfl h
        exact ⟨c1, FM_trans (FM_mono (FM_trans fm f2) (fun _ h => h) (by decide)) (FM_mono c2 (fun _ h => h) (by decide)), c3⟩
      · rw [if_neg (by rw [Int32.le_iff_toInt_le, b2, m1i, z32]; omega)] at h
        obtain ⟨_, h⟩ := h
        obtain ⟨ai, h⟩ := h _ rfl
        have h := h _ rfl
        have Sa : SK (aS wk 155 i2 i1) := SK_aS S1
        have f2 : FM [] [154, 155] wk (aS (aS wk 155 i2 i1) 154 i1 i2) := FM_trans (FM_aS S1 (by decide)) (FM_aS Sa (by decide))
        have Sb := f2.2.2.2
        have dTb : dR (aS (aS wk 155 i2 i1) 154 i1 i2) = dR w := by rw [← dT]; funext q; unfold dR; rw [FM_a f2 (by decide)]
        obtain ⟨r4, w5, y, h⟩ := h
        obtain ⟨alt, e5⟩ := F257p Sb h2 e9m y
        rw [dTb] at alt
        rw [e5] at h
        have e1 : (i1 + 1).toInt = ((m + 1 : Nat) : Int) := by rw [zi_inc (n := 100) (by omega) (by omega), h1]; rfl
        rcases alt with ⟨q, zq, c1, c2, c3⟩ | ⟨c1, c2⟩
        · have h := h _ c1 Sb
          obtain ⟨e', g1, g2, g3⟩ := wkP_x hw b1 c3
          have a154 := aS154 (aS wk 155 i2 i1) i1 i2 m Sa h1 ai
          have a155 := aS155 wk i2 i1 (e m) S1 h2 e9m
          -- nine people are all there are
          have m9 : m < 9 := by
            rcases Nat.lt_or_ge m 9 with c | c
            · exact c
            · have m9 : m = 9 := by omega
              have all : ∀ n, n ≤ 9 → n ≤ cntN (fun q => anN (fun i => Nat.beq (e i) q) n) 9 := by
                intro n
                induction n with
                | zero => intro _; exact Nat.zero_le _
                | succ n ihn =>
                  intro hn
                  have lt : cntN (fun q => anN (fun i => Nat.beq (e i) q) n) 9 < cntN (fun q => anN (fun i => Nat.beq (e i) q) (n + 1)) 9 := cntN_lt 9 (fun q _ hq => by
                    have hq : anN (fun i => Nat.beq (e i) q) n = true := hq
                    show (anN (fun i => Nat.beq (e i) q) n || Nat.beq (e n) q) = true
                    rw [hq]
                    rfl) ⟨e n, hw.2.1 n (by omega), by
                      show (anN (fun i => Nat.beq (e i) (e n)) n || Nat.beq (e n) (e n)) = true
                      rw [Nat.beq_refl, Bool.or_true], by
                      cases hh : anN (fun i => Nat.beq (e i) (e n)) n with
                      | false => rfl
                      | true =>
                        obtain ⟨j, hj, ej⟩ := (anN_t n).mp hh
                        exact absurd (Nat.eq_of_beq_eq_true ej) (hw.2.2.2 j n hj (by omega))⟩
                  have := ihn (by omega)
                  omega
              have full := cntN_all 9 (all 9 (Nat.le_refl 9)) (e m) e9m
              obtain ⟨j, hj, ej⟩ := (anN_t 9).mp full
              exact absurd (Nat.eq_of_beq_eq_true ej) (b1 j (by omega))
          obtain ⟨d1, d2, d3⟩ := ih (m + 1) _ _ _ e' (FM_trans fm f2) g1 (by rw [c2, g2]) e1 (by omega) (fun i hi => by
            rw [a154 i, g3 i (by omega)]
            by_cases ei : i = m
            · rw [if_pos ei, ei]; exact h2
            · rw [if_neg ei, gA_aS_ne (by decide)]; exact h154 i (by omega)) (fun q' hq' => by
            rw [gA_aS_ne (by decide), a155 q']
            by_cases eq : q' = e m
            · rw [if_pos eq]
              exact Or.inl ⟨m, Nat.lt_succ_self m, by rw [g3 m (Nat.le_refl m), eq], h1⟩
            · rw [if_neg eq]
              rcases h155 q' hq' with ⟨i, d1, d2, d3⟩ | ⟨d1, d2⟩
              · exact Or.inl ⟨i, by omega, by rw [g3 i (by omega)]; exact d2, d3⟩
              · refine Or.inr ⟨fun i hi => ?_, d2⟩
                rw [g3 i (by omega)]
                by_cases ei : i = m
                · rw [ei]; exact fun z => eq z.symm
                · exact d1 i (by omega)) h
          exact ⟨d1, d2, d3⟩
        · have h := h _ c1 Sb
          have := F256_29i Sb h
          rw [m1i] at this
          omega
  have ini : ∀ (k t : Nat) (wk : pm_W) (i1 : Int32), FM [] [154, 155] w wk → i1.toInt = t → t ≤ 9 → (∀ q, q < t → (gA wk 155).getD q 0 = -1) → PS X k 256 2 [.ref 147, .int i1, pm_dead, pm_dead, pm_dead] [] wk r w' → r = none ∧ FM [] [152, 154, 155] w w' ∧ stR (dR w) (dR w') := by
    intro k
    induction k with
    | zero => intro t wk i1 _ _ _ _ h; exact (PS_0 h).elim
    | succ k ih =>
      intro t wk i1 fm h1 ht hz h
      have S1 : SK wk := fm.2.2.2
      have dT : dR wk = dR w := by funext q; unfold dR; rw [FM_a fm (by decide)]
      have h := U256_2 S1 h
      by_cases c : 9 ≤ i1
      · rw [if_pos c] at h
        rw [Int32.le_iff_toInt_le, e9, h1] at c
        obtain ⟨r1, w2, y, h⟩ := h
        obtain ⟨alt, e2⟩ := F257f S1 y
        rw [dT] at alt
        rw [e2] at h
        rcases alt with ⟨f, zf, b1, b2, b3⟩ | ⟨b1, b2⟩
        · have h := h _ b1 S1
          obtain ⟨d1, d2, d3⟩ := lp f b3 k 0 wk 0 zf (fun _ => f) fm ⟨rfl, fun _ _ => b3.1, fun i hi => absurd hi (Nat.not_lt_zero i), fun i j _ hj => absurd hj (Nat.not_lt_zero j)⟩ b2 z32 (Nat.zero_le _) (fun i hi => absurd hi (Nat.not_lt_zero i)) (fun q hq => Or.inr ⟨fun i hi => absurd hi (Nat.not_lt_zero i), hz q (by omega)⟩) h
          exact ⟨d1, d2, f, b3, d3⟩
        · have h := h _ b1 S1
          have := F256_29i S1 h
          rw [m1i] at this
          omega
      · rw [if_neg c] at h
        rw [Int32.le_iff_toInt_le, e9, h1] at c
        obtain ⟨_, h⟩ := h
        have h := h _ rfl
        refine ih (t + 1) _ _ (FM_trans fm (FM_aS S1 (by decide))) (by rw [zi_inc (n := 100) (by omega) (by omega), h1]; rfl) (by omega) (fun q hq => ?_) h
        rw [aS155 wk i1 (-1) t S1 h1 (by omega) q]
        by_cases e : q = t
        · rw [if_pos e]
        · rw [if_neg e]; exact hz q (by omega)
  cases k with
  | zero => exact (PS_0 h).elim
  | succ k => exact ini k 0 w 0 (FM_refl hS) z32 (Nat.zero_le _) (fun q hq => absurd hq (Nat.not_lt_zero q)) (U256_0 hS h)
theorem F255 (hS : SK w) (hu : u ≤ 1) (hp : p1.toInt = (610 + 132 * u : Nat)) (hP : (al w (610 + 132 * u)).toInt = P) (hP9 : P ≤ 9) (hD : OKD (dR w)) (h : PS X k 255 0 [.ref 147, .int p1, pm_dead] [] w r w') : SK w' ∧ ((¬ lwS P 0 (dR w) ∧ r = some (.int (-1))) ∨ (lwS P 0 (dR w) ∧ ∃ (t : Nat) (D2 : Nat → Int32) (z : Int32), ITR stR t (dR w) D2 ∧ (f32 D2 81).toInt ≤ 0 ∧ r = some (.int z) ∧ z.toInt = t)) := by
  have eP : aG w 148 p1 = al w (610 + 132 * u) := aG_n (m := 610 + 132 * u) hp
  have lp : ∀ (k t : Nat) (wk : pm_W) (i2 : Int32), FM [] [152, 154, 155] w wk → i2.toInt = t → ITR stR t (dR w) (dR wk) → PS X k 255 31 [.ref 147, .int p1, .int i2] [] wk r w' → SK w' ∧ ∃ (t : Nat) (D2 : Nat → Int32) (z : Int32), ITR stR t (dR w) D2 ∧ (f32 D2 81).toInt ≤ 0 ∧ r = some (.int z) ∧ z.toInt = t := by
    intro k
    induction k with
    | zero => intro t wk i2 _ _ _ h; exact (PS_0 h).elim
    | succ k ih =>
      intro t wk i2 fm h2 hI h
      have S1 : SK wk := fm.2.2.2
      have h := use_p S1 (U255_31 S1 h) (fun _ _ y => F252 S1 y)
      by_cases c : f32 (dR wk) 81 ≤ 0
      · rw [if_pos c] at h
        rw [Int32.le_iff_toInt_le, z32] at c
        rw [h.2]
        exact ⟨S1, t, _, i2, hI, c, h.1, h2⟩
      · rw [if_neg c] at h
        obtain ⟨r4, w5, y, h⟩ := h
        obtain ⟨a1, a2, a3⟩ := F256 S1 y
        have h := h a1 a2.2.2.2
        have tb := (ITR_ok hD t _ hI).2
        exact ih (t + 1) w5 _ (FM_trans fm a2) (by rw [zi_inc (n := 100) (by omega) (by omega), h2]; rfl) ⟨_, hI, a3⟩ h
  have lp2 : ∀ (k t : Nat) (i2 : Int32), i2.toInt = t → t ≤ P → (∀ j, j < t → blS (dR w) j P = 0) → PS X k 255 2 [.ref 147, .int p1, .int i2] [] w r w' → SK w' ∧ ((¬ lwS P 0 (dR w) ∧ r = some (.int (-1))) ∨ (lwS P 0 (dR w) ∧ ∃ (t : Nat) (D2 : Nat → Int32) (z : Int32), ITR stR t (dR w) D2 ∧ (f32 D2 81).toInt ≤ 0 ∧ r = some (.int z) ∧ z.toInt = t)) := by
    intro k
    induction k with
    | zero => intro t i2 _ _ _ h; exact (PS_0 h).elim
    | succ k ih =>
      intro t i2 h2 ht hz h
      obtain ⟨_, h⟩ := U255_2 hS h
      rw [eP] at h
      by_cases c : al w (610 + 132 * u) ≤ i2
      · rw [if_pos c] at h
        rw [Int32.le_iff_toInt_le, hP, h2] at c
        obtain ⟨b1, b2⟩ := lp k 0 w 0 (FM_refl hS) z32 rfl h
        refine ⟨b1, Or.inr ⟨fun j hj => ?_, b2⟩⟩
        rw [hz j (by omega), z32]
        omega
      · rw [if_neg c] at h
        rw [Int32.le_iff_toInt_le, hP, h2] at c
        have h := use_p hS h (fun _ _ y => F242 hS hu hp hP hP9 h2 (by omega) y)
        by_cases c2 : blS (dR w) t P = 0
        · rw [if_pos c2] at h
          refine ih (t + 1) _ (by rw [zi_inc (n := 100) (by omega) (by omega), h2]; rfl) (by omega) (fun j hj => ?_) h
          by_cases e : j = t
          · rw [e]; exact c2
          · exact hz j (by omega)
        · rw [if_neg c2] at h
          refine ⟨by rw [h.2]; exact hS, Or.inl ⟨fun q => c2 (Int32.toInt_inj.mp ?_), h.1⟩⟩
          have q := q t (by omega)
          rw [z32] at q
          rw [z32]
          omega
  cases k with
  | zero => exact (PS_0 h).elim
  | succ k => exact lp2 k 0 0 z32 (Nat.zero_le _) (fun j hj => absurd hj (Nat.not_lt_zero j)) (U255_0 hS h)
/-- state -/
theorem RC_14 (h3 : RL3 w) (h1 : PS X k 103 0 [.ref 0, .int p1, .int p2, .int p3, .int p4] [] w r w1) (h2 : PS X k2 250 0 [.ref 147, .int p1, .int p2, .int p3, .int p4, pm_dead] [] w1 r2 w2) : r2 = r := by
  have hS := h3.1.1
  cases k with
  | zero => exact (PS_0 h1).elim
  | succ k =>
    cases k2 with
    | zero => exact (PS_0 h2).elim
    | succ k2 =>
      obtain ⟨q1, w3, zz, h1⟩ := U103_0 hS h1
      obtain ⟨f1, alt⟩ := F98 h3 zz
      have S3 : SK w3 := f1.2.2.2
      have ea := FM_al f1
      rcases alt with ⟨u, s1, a1, a2, a3⟩ | ⟨a1, a2⟩
      · have h1 := h1 _ a1 S3
        rw [if_neg (by decide +kernel)] at h1
        have hu := a2.2.1
        have u1 : u ≤ 1 := by have := h3.1.2.1.1.2.1; omega
        have okv := okV_n u1
        obtain ⟨v1, _, v3, v2, v4⟩ := VA_v h3.2 hu
        obtain ⟨g1, g2, g3, g4⟩ := CVL h3 hu f1 a3
        rw [g3] at g1
        have ok33 : okS 33 = true := by decide +kernel
        have hd : dA w3 33 = s1.1 := a3.2.2.1
        have hg : gAr w3 33 = s1.2.1 := a3.2.2.2.1
        have hm : gI w3 33 1 = s1.2.2.1 := a3.2.2.2.2.1
        have hN : (gI w3 33 2).toInt = s1.2.2.2 := a3.2.2.2.2.2
        have sN : s1.2.2.2 ≤ 30 := LDR_N h3.2 h3.1.2.1.1 a2
        have lS := (LDR_2 h3.2 a2 a2).2
        have hW1 : WS (Pof (al w) u) s1.2.2.2 (s1.1, s1.2.1) := lS.2.2.2.2.1
        have bd : OKD s1.1 := hW1.1.1
        have hDA : OKD (dA w3 33) := by rw [hd]; exact bd
        have hZ : DZ s1.1 := LDR_Z h3.2 a2
        -- the reference, behind a world that keeps what is told
        have ref : SK w1 → al w1 = al w → ∃ (w6 : pm_W) (t2 : SN), SK w6 ∧ al w6 = al w ∧ dR w6 = s1.1 ∧ gRr w6 = t2.2.1 ∧ gI w6 147 15 = s1.2.2.1 ∧ (gI w6 147 14).toInt = s1.2.2.2 ∧ LK (Pof (al w) u) s1.1 s1.2.1 t2.2.1 s1.2.2.2 ∧ (610 + 132 * p1).toInt = (610 + 132 * u : Nat) ∧ (if p4 = 0 then (r2 = some (.int (gI w6 147 15)) ∧ w2 = w6) else (if p4 = 1 then (r2 = some (.int (gI w6 147 14)) ∧ w2 = w6) else (if p4 = 2 then (∃ (r7 : Option Value) (w8 : pm_W), PS X k2 251 0 [.ref 147, pm_dead, pm_dead] [] w6 r7 w8 ∧ (∀ x9 : Int32, r7 = some (.int x9) → SK w8 → (r2 = some (.int x9) ∧ w2 = w8))) else (if p4 = 3 then (∃ (r10 : Option Value) (w11 : pm_W), PS X k2 252 0 [.ref 147, pm_dead, pm_dead] [] w6 r10 w11 ∧ (∀ x12 : Int32, r10 = some (.int x12) → SK w11 → (r2 = some (.int x12) ∧ w2 = w11))) else (if p4 = 4 then (∃ (r13 : Option Value) (w14 : pm_W), PS X k2 253 0 [.ref 147, .int (610 + 132 * p1), pm_dead, pm_dead, pm_dead] [] w6 r13 w14 ∧ (∀ x15 : Int32, r13 = some (.int x15) → SK w14 → (r2 = some (.int x15) ∧ w2 = w14))) else (if p4 = 5 then (∃ (r16 : Option Value) (w17 : pm_W), PS X k2 254 0 [.ref 147, pm_dead, pm_dead, pm_dead, pm_dead] [] w6 r16 w17 ∧ (∀ x18 : Int32, r16 = some (.int x18) → SK w17 → (r2 = some (.int x18) ∧ w2 = w17))) else (if p4 = 6 then (∃ (r19 : Option Value) (w20 : pm_W), PS X k2 255 0 [.ref 147, .int (610 + 132 * p1), pm_dead] [] w6 r19 w20 ∧ (∀ x21 : Int32, r19 = some (.int x21) → SK w20 → (r2 = some (.int x21) ∧ w2 = w20))) else (if p4 = 7 then (∃ (r22 : Option Value) (w23 : pm_W), PS X k2 258 0 [.ref 147, pm_dead, pm_dead, pm_dead] [] w6 r22 w23 ∧ (∀ x24 : Int32, r22 = some (.int x24) → SK w23 → (r2 = some (.int x24) ∧ w2 = w23))) else (if p4 = 8 then (∃ (r25 : Option Value) (w26 : pm_W), PS X k2 259 0 [.ref 147, .int (610 + 132 * p1), pm_dead, pm_dead] [] w6 r25 w26 ∧ (∀ x27 : Int32, r25 = some (.int x27) → SK w26 → (r2 = some (.int x27) ∧ w2 = w26))) else (if p4 = 9 then (∃ (r28 : Option Value) (w29 : pm_W), PS X k2 261 0 [.ref 147, .int (610 + 132 * p1), pm_dead, pm_dead, pm_dead, pm_dead, pm_dead, pm_dead] [] w6 r28 w29 ∧ (∀ x30 : Int32, r28 = some (.int x30) → SK w29 → (r2 = some (.int x30) ∧ w2 = w29))) else (if p4 = 10 then (∃ (r31 : Option Value) (w32 : pm_W), PS X k2 262 0 [.ref 147, .int (610 + 132 * p1), pm_dead, pm_dead, pm_dead, pm_dead, pm_dead] [] w6 r31 w32 ∧ (∀ x33 : Int32, r31 = some (.int x33) → SK w32 → (r2 = some (.int x33) ∧ w2 = w32))) else (r2 = some (.int (-2)) ∧ w2 = w6)))))))))))) := by
          intro S1 e1
          obtain ⟨q6, w6, y6, h2⟩ := U250_0 S1 h2
          obtain ⟨f6, e6, alt2⟩ := LOAD3 h3 zz S1 e1 y6
          have S6 := f6.2.2.2
          rcases alt2 with ⟨gg1, _⟩ | ⟨u2, t1, t2, _, gg2, hLD⟩
          · rw [a1] at gg1; exact absurd gg1 i10
          · have eu : u2 = u := by have := hLD.1; have := a2.1; omega
            subst eu
            obtain ⟨d3, d4, d5, d6, d7, d8, d9⟩ := id hLD
            have h2 := h2 _ gg2 S6
            rw [if_neg (by decide +kernel)] at h2
            have h2 := use_p S6 h2 (fun _ _ y => F217v S6 d3 u1 y)
            obtain ⟨l1, l2, l3, l4⟩ := d6
            have x1 : t1.1 = s1.1 := d7.2.2.1.symm.trans hd
            have x2 : t1.2.1 = s1.2.1 := d7.2.2.2.1.symm.trans hg
            have x3 : t1.2.2.1 = s1.2.2.1 := d7.2.2.2.2.1.symm.trans hm
            have x4 : t1.2.2.2 = s1.2.2.2 := by have q1 := d7.2.2.2.2.2; omega
            obtain ⟨r1, r2', r3, r4⟩ := d8
            rw [x1, x2, x4] at l4
            exact ⟨w6, t2, S6, e6, by rw [r1, l1, x1], r2', by rw [r3, l2, x3], by rw [r4, l3, x4], l4, plV d3 u1, h2⟩
        have i14 : ∀ {w6 : pm_W}, (gI w6 147 14).toInt = s1.2.2.2 → gI w6 147 14 = gI w3 33 2 := fun h => Int32.toInt_inj.mp (by rw [h, hN])
        have eV : ∀ {w6 : pm_W}, al w6 = al w → (fun k => al w6 (610 + 132 * u + k)) = Vof (al w) u := fun h => by rw [h]; rfl
        by_cases c0 : p4 = 0
        · rw [if_pos c0] at h1
          obtain ⟨w6, t2, S6, e6, x1, x2, x3, x4, x5, x6, h2⟩ := ref (by rw [h1.2]; exact S3) (by rw [h1.2]; exact ea)
          rw [if_pos c0] at h2
          rw [h1.1, h2.1, x3, hm]
        · rw [if_neg c0] at h1
          by_cases c1 : p4 = 1
          · rw [if_pos c1] at h1
            obtain ⟨w6, t2, S6, e6, x1, x2, x3, x4, x5, x6, h2⟩ := ref (by rw [h1.2]; exact S3) (by rw [h1.2]; exact ea)
            rw [if_neg c0, if_pos c1] at h2
            rw [h1.1, h2.1, i14 x4]
          · rw [if_neg c1] at h1
            by_cases c2 : p4 = 2
            · rw [if_pos c2] at h1
              have h1 := use_p S3 h1 (fun _ _ y => F104 S3 ok33 hN (by omega) y)
              obtain ⟨w6, t2, S6, e6, x1, x2, x3, x4, x5, x6, h2⟩ := ref (by rw [h1.2]; exact S3) (by rw [h1.2]; exact ea)
              rw [if_neg c0, if_neg c1, if_pos c2] at h2
              have h2 := use_p S6 h2 (fun _ _ y => F251 S6 x4 (by omega) y)
              rw [h1.1, h2.1, x2, hg, opM_RG x5.1 _ (Nat.le_refl _)]
            · rw [if_neg c2] at h1
              by_cases c3 : p4 = 3
              · rw [if_pos c3] at h1
                have h1 := use_p S3 h1 (fun _ _ y => F105 S3 ok33 y)
                obtain ⟨w6, t2, S6, e6, x1, x2, x3, x4, x5, x6, h2⟩ := ref (by rw [h1.2]; exact S3) (by rw [h1.2]; exact ea)
                rw [if_neg c0, if_neg c1, if_neg c2, if_pos c3] at h2
                have h2 := use_p S6 h2 (fun _ _ y => F252 S6 y)
                rw [h1.1, h2.1, x1, hd]
              · rw [if_neg c3] at h1
                by_cases c4 : p4 = 4
                · rw [if_pos c4] at h1
                  have h1 := use_p S3 h1 (fun _ _ y => F106 S3 ok33 okv g3 g1 v1 y)
                  obtain ⟨w6, t2, S6, e6, x1, x2, x3, x4, x5, x6, h2⟩ := ref (by rw [h1.2]; exact S3) (by rw [h1.2]; exact ea)
                  rw [if_neg c0, if_neg c1, if_neg c2, if_neg c3, if_pos c4] at h2
                  have h2 := use_p S6 h2 (fun _ _ y => F253 (P := Pof (al w) u) S6 u1 x6 (by rw [e6]; exact v3) v1 y)
                  rw [h1.1, h2.1, x1, hd, eV e6]
                  refine congrArg (fun z => some (Value.int z)) (fO_cg _ (fun i hi j hj => ?_))
                  exact (rmI_cg (V := Vof (al w) u) (V' := vcl w3 (5 + 5 * u)) (fun q hq => g4 q hq) (by omega) (show j < 9 by omega)).symm
                · rw [if_neg c4] at h1
                  by_cases c5 : p4 = 5
                  · rw [if_pos c5] at h1
                    obtain ⟨q4, w5, y5, h1⟩ := h1
                    obtain ⟨⟨zc, b1, b2⟩, b3⟩ := F107 S3 ok33 hDA y5
                    have h1 := h1 _ b1 (by rw [b3]; exact S3)
                    rw [b3] at h1
                    obtain ⟨w6, t2, S6, e6, x1, x2, x3, x4, x5, x6, h2⟩ := ref (by rw [h1.2]; exact S3) (by rw [h1.2]; exact ea)
                    rw [if_neg c0, if_neg c1, if_neg c2, if_neg c3, if_neg c4, if_pos c5] at h2
                    obtain ⟨q7, w7, y7, h2⟩ := h2
                    obtain ⟨⟨zr, d1, d2⟩, d3⟩ := F254 S6 (by rw [x1]; exact bd) y7
                    have h2 := h2 _ d1 (by rw [d3]; exact S6)
                    rw [hd, net_2 bd hZ] at b2
                    rw [x1] at d2
                    rw [h1.1, h2.1, Int32.toInt_inj.mp (d2.trans b2.symm)]
                  · rw [if_neg c5] at h1
                    by_cases c6 : p4 = 6
                    · rw [if_pos c6] at h1
                      obtain ⟨q4, w5, y5, h1⟩ := h1
                      obtain ⟨f5, alt5⟩ := F108 (P := Pof (al w) u) S3 (by rw [g3]; exact g1) v1 hDA y5
                      have S5 := f5.2.2.2
                      rw [hd] at alt5
                      have go : ∀ x : Int32, q4 = some (.int x) → r = some (.int x) ∧ ∃ (w6 : pm_W) (q7 : Option Value) (w8 : pm_W), SK w6 ∧ al w6 = al w ∧ dR w6 = s1.1 ∧ PS X k2 255 0 [.ref 147, .int (610 + 132 * p1), pm_dead] [] w6 q7 w8 ∧ (610 + 132 * p1).toInt = (610 + 132 * u : Nat) ∧ ∀ x : Int32, q7 = some (.int x) → SK w8 → r2 = some (.int x) := by
                        intro x hx
                        have h1 := h1 _ hx S5
                        obtain ⟨w6, t2, S6, e6, x1, x2, x3, x4, x5, x6, h2⟩ := ref (by rw [h1.2]; exact S5) (by rw [h1.2, al_FM f5 (by decide)]; exact ea)
                        rw [if_neg c0, if_neg c1, if_neg c2, if_neg c3, if_neg c4, if_neg c5, if_pos c6] at h2
                        obtain ⟨q7, w8, y8, h2⟩ := h2
                        exact ⟨h1.1, w6, q7, w8, S6, e6, x1, y8, x6, fun x hx S => (h2 x hx S).1⟩
                      rcases alt5 with ⟨nl, b1⟩ | ⟨ly, t, D1, zc, b1, b2, b3, b4⟩
                      · obtain ⟨hr, w6, q7, w8, S6, e6, x1, y8, x6, h2⟩ := go _ b1
                        obtain ⟨S8, alt8⟩ := F255 (P := Pof (al w) u) S6 u1 x6 (by rw [e6]; exact v3) v1 (by rw [x1]; exact bd) y8
                        rcases alt8 with ⟨_, d1⟩ | ⟨d1, _⟩
                        · rw [hr, h2 _ d1 S8]
                        · rw [x1] at d1; exact absurd d1 nl
                      · obtain ⟨hr, w6, q7, w8, S6, e6, x1, y8, x6, h2⟩ := go _ b3
                        obtain ⟨S8, alt8⟩ := F255 (P := Pof (al w) u) S6 u1 x6 (by rw [e6]; exact v3) v1 (by rw [x1]; exact bd) y8
                        rcases alt8 with ⟨d1, _⟩ | ⟨_, t', D2, zr, d1, d2, d3, d4⟩
                        · rw [x1] at d1; exact absurd ly d1
                        · rw [x1] at d1
                          have et := part_2 bd b1 b2 d1 d2
                          rw [et] at d4
                          rw [hr, h2 _ d3 S8, Int32.toInt_inj.mp (d4.trans b4.symm)]
                    · rw [if_neg c6] at h1
                      by_cases c7 : p4 = 7
                      · rw [if_pos c7] at h1
                        have h1 := use_p S3 h1 (fun _ _ y => F113 S3 ok33 y)
                        obtain ⟨w6, t2, S6, e6, x1, x2, x3, x4, x5, x6, h2⟩ := ref (by rw [h1.2]; exact S3) (by rw [h1.2]; exact ea)
                        rw [if_neg c0, if_neg c1, if_neg c2, if_neg c3, if_neg c4, if_neg c5, if_neg c6, if_pos c7] at h2
                        have h2 := use_p S6 h2 (fun _ _ y => F258 S6 y)
                        rw [h1.1, h2.1, x1, hd]
                      · rw [if_neg c7] at h1
                        by_cases c8 : p4 = 8
                        · rw [if_pos c8] at h1
                          obtain ⟨q4, w5, y5, h1⟩ := h1
                          obtain ⟨⟨zc, b1, b2⟩, b3⟩ := F114 S3 ok33 g3 g1 v1 hDA y5
                          have h1 := h1 _ b1 (by rw [b3]; exact S3)
                          rw [b3] at h1
                          obtain ⟨w6, t2, S6, e6, x1, x2, x3, x4, x5, x6, h2⟩ := ref (by rw [h1.2]; exact S3) (by rw [h1.2]; exact ea)
                          rw [if_neg c0, if_neg c1, if_neg c2, if_neg c3, if_neg c4, if_neg c5, if_neg c6, if_neg c7, if_pos c8] at h2
                          obtain ⟨q7, w7, y7, h2⟩ := h2
                          obtain ⟨⟨zr, d1, d2⟩, d3⟩ := F259 (P := Pof (al w) u) S6 x6 (by rw [e6]; exact v3) v1 (by rw [x1]; exact bd) y7
                          have h2 := h2 _ d1 (by rw [d3]; exact S6)
                          rw [hd] at b2
                          rw [x1] at d2
                          rw [h1.1, h2.1, MSK_uq d2 b2 (fun b _ => rfl)]
                        · rw [if_neg c8] at h1
                          by_cases c9 : p4 = 9
                          · rw [if_pos c9] at h1
                            obtain ⟨q4, w5, y5, h1⟩ := h1
                            obtain ⟨⟨zc, b1, b2⟩, b3⟩ := F116 S3 ok33 g3 g1 v1 hDA y5
                            have h1 := h1 _ b1 (by rw [b3]; exact S3)
                            rw [b3] at h1
                            obtain ⟨w6, t2, S6, e6, x1, x2, x3, x4, x5, x6, h2⟩ := ref (by rw [h1.2]; exact S3) (by rw [h1.2]; exact ea)
                            rw [if_neg c0, if_neg c1, if_neg c2, if_neg c3, if_neg c4, if_neg c5, if_neg c6, if_neg c7, if_neg c8, if_pos c9] at h2
                            obtain ⟨q7, w7, y7, h2⟩ := h2
                            obtain ⟨⟨zr, d1, d2⟩, d3⟩ := F261 (P := Pof (al w) u) S6 x6 (by rw [e6]; exact v3) v1 (by rw [x1]; exact bd) y7
                            have h2 := h2 _ d1 (by rw [d3]; exact S6)
                            rw [hd] at b2
                            rw [x1] at d2
                            rw [h1.1, h2.1, Int32.toInt_inj.mp (d2.trans b2.symm)]
                          · rw [if_neg c9] at h1
                            by_cases c10 : p4 = 10
                            · rw [if_pos c10] at h1
                              obtain ⟨q4, w5, y5, h1⟩ := h1
                              obtain ⟨b1, f5⟩ := F118 (P := Pof (al w) u) (N := s1.2.2.2) S3 g3 (by omega) g1 v1 hN (by omega) (by unfold sAg; rw [hd, hg]; exact hW1) y5
                              have S5 := f5.2.2.2
                              have h1 := h1 _ b1 S5
                              obtain ⟨w6, t2, S6, e6, x1, x2, x3, x4, x5, x6, h2⟩ := ref (by rw [h1.2]; exact S5) (by rw [h1.2, al_FM f5 (by decide)]; exact ea)
                              rw [if_neg c0, if_neg c1, if_neg c2, if_neg c3, if_neg c4, if_neg c5, if_neg c6, if_neg c7, if_neg c8, if_neg c9, if_pos c10] at h2
                              obtain ⟨q7, w7, y7, h2⟩ := h2
                              obtain ⟨S7, d1⟩ := F262 (P := Pof (al w) u) (N := s1.2.2.2) S6 x6 (by rw [e6]; exact v3) v1 x4 (by omega) (by unfold sR2; rw [x1, x2]; exact x5.2.2) y7
                              have h2 := h2 _ d1 S7
                              have el : lfF (Pof (al w) u) s1.2.2.2 (dR w6) (gRr w6) = lfF (Pof (al w) u) s1.2.2.2 (dA w3 33) (gAr w3 33) := by
                                funext p
                                unfold lfF
                                rw [x1, x2, hd, hg, (flS_RG (c := cF p) v1 x5.1 x5.2.1 (fun G1 G2 hg K hK => cF_RG hg hK) _ (Nat.le_refl _)).1]
                              rw [h1.1, h2.1, el]
                            · rw [if_neg c10] at h1
                              obtain ⟨w6, t2, S6, e6, x1, x2, x3, x4, x5, x6, h2⟩ := ref (by rw [h1.2]; exact S3) (by rw [h1.2]; exact ea)
                              rw [if_neg c0, if_neg c1, if_neg c2, if_neg c3, if_neg c4, if_neg c5, if_neg c6, if_neg c7, if_neg c8, if_neg c9, if_neg c10] at h2
                              rw [h1.1, h2.1]
      · have h1 := h1 _ a1 S3
        rw [if_pos rfl] at h1
        rw [h1.2] at h2
        obtain ⟨q6, w6, y6, h2⟩ := U250_0 S3 h2
        obtain ⟨g1, S6⟩ := no_173 h3 zz a1 y6
        have h2 := h2 _ g1 S6
        rw [if_pos rfl] at h2
        rw [h2.1, h1.1]
end KEA
