/-! ===== extend: all rings that begin so are seen ===== -/
section JHA
variable {X : pm_X} {k k2 : Nat} {w0 w w1 w2 w3 w4 w5 wj w' : pm_W} {r r2 q0 q1 q2 : Option Value} {p1 p2 p3 p4 p5 i1 i2 i3 i4 i5 i6 i7 i8 z z1 z2 so x : Int32} {i v j m c m' c' u P t s a b d p q Q I J K T W N κ bm n : Nat} {l : Int64} {e g y : Int} {f fe rk : Nat → Int} {V : Nat → Nat → Prop} {R : Nat → Nat → Int}
def snN (a b d c q : Nat) : Bool := (List.range d).any (fun i => Nat.beq (elN a b d c i) q)
theorem snN_t : snN a b d c q = true ↔ ∃ i, i < d ∧ elN a b d c i = q := by
  unfold snN
  rw [List.any_eq_true]
  constructor
  · rintro ⟨i, hi, e⟩
    exact ⟨i, List.mem_range.mp hi, Nat.eq_of_beq_eq_true e⟩
  · rintro ⟨i, hi, e⟩
    exact ⟨i, List.mem_range.mpr hi, by rw [e]; exact Nat.beq_refl q⟩
theorem snN_s (hd : 2 ≤ d) (hp : p < 9) : snN a b (d + 1) (9 * c + p) q = (snN a b d c q || decide (q = p)) := by
  apply Bool.eq_iff_iff.mpr
  rw [Bool.or_eq_true, snN_t, snN_t, decide_eq_true_iff]
  constructor
  · rintro ⟨i, hi, e⟩
    by_cases h : i = d
    · rw [h, elN_hi hd hp] at e; exact Or.inr e.symm
    · rw [elN_lo hd hp (by omega)] at e; exact Or.inl ⟨i, by omega, e⟩
  · rintro (⟨i, hi, e⟩ | e)
    · exact ⟨i, by omega, by rw [elN_lo hd hp hi]; exact e⟩
    · exact ⟨d, by omega, by rw [elN_hi hd hp]; exact e.symm⟩
theorem aS66 (hS : SK w) (hx : i1.toInt = d) (hd : d < 6) (i : Nat) : (gA (aS w 66 i1 x) 66).getD i 0 = if i = d then x else (gA w 66).getD i 0 := by
  rw [gA_aS (SK_isA hS (by decide +kernel)), i_nat hx, getD_set (by rw [l66 hS]; exact hd)]
abbrev srF : List (Nat × Nat) := [(55, 6), (55, 7), (55, 8)]
abbrev srA : List Nat := [66, 67]
theorem F135_l (hS0 : SK w0) (hC : SRC w0 v P y so fe rk) (okv : okV v = true) (hR : ∀ i j, R i j = (rmI (vcl w0 v) (dA w0 33) i j).toInt) : ∀ k : Nat,
    (∀ (w : pm_W) (d c : Nat) (V : Nat → Nat → Prop) (i2 i3 : Int32) (r : Option Value) (w' : pm_W), FM srF srA w0 w → i2.toInt = d → 2 ≤ d → d ≤ 6 → c < 9 ^ (d - 2) → VPr R P y a b d c → (∀ i, i < d → ((gA w 66).getD i 0).toInt = elN a b d c i) → MSK i3 9 (snN a b d c) → SBw w P so fe rk a b V → (∀ m' c', V m' c' → d ≤ m' → c' / 9 ^ (m' - d) < c) → PS X k 135 0 [.ref 55, .int i2, .int i3, pm_dead, pm_dead] [] w r w' → r = none ∧ FM srF srA w0 w' ∧ (∀ i, i < d → ((gA w' 66).getD i 0).toInt = elN a b d c i) ∧ SBw w' P so fe rk a b (fun m x => V m x ∨ EXr R P y a b d c m x)) ∧
    (∀ (w : pm_W) (d c p : Nat) (V : Nat → Nat → Prop) (i1 i2 i3 i4 : Int32) (r : Option Value) (w' : pm_W), FM srF srA w0 w → i1.toInt = d → 2 ≤ d → d < 6 → c < 9 ^ (d - 2) → VPr R P y a b d c → (∀ i, i < d → ((gA w 66).getD i 0).toInt = elN a b d c i) → MSK i2 9 (snN a b d c) → i3.toInt = elN a b d c (d - 1) → i4.toInt = p → p ≤ P → SBw w P so fe rk a b (fun m x => V m x ∨ (m = d ∧ x = c ∧ VRg R P y a b d c) ∨ ∃ p', p' < p ∧ EXr R P y a b (d + 1) (9 * c + p') m x) → (∀ m' c', V m' c' → d ≤ m' → c' / 9 ^ (m' - d) < c) → PS X k 135 45 [.ref 55, .int i1, .int i2, .int i3, .int i4] [] w r w' → r = none ∧ FM srF srA w0 w' ∧ (∀ i, i < d → ((gA w' 66).getD i 0).toInt = elN a b d c i) ∧ SBw w' P so fe rk a b (fun m x => V m x ∨ EXr R P y a b d c m x)) := by
  have e6 : (6 : Int32).toInt = 6 := by decide +kernel
  obtain ⟨_, _, c3, _, hP9, _⟩ := id hC
  have hCk : ∀ w, FM srF srA w0 w → SRC w v P y so fe rk := fun w f => SRC_fm hC f (by decide) (by decide)
  have room : ∀ (w : pm_W) (k : Nat) (p1 p2 : Int32) (i j : Nat) (r : Option Value) (w' : pm_W), FM srF srA w0 w → p1.toInt = i → p2.toInt = j → i < 9 → j < 9 → PS X k 77 0 [.ref 33, .int p1, .int p2] [] w r w' → (∃ z : Int32, z.toInt = R i j ∧ r = some (.int z) ∧ w' = w) := by
    intro w k p1 p2 i j r w' f h1 h2 hi hj h
    have hS : SK w := f.2.2.2
    obtain ⟨a1, a2⟩ := F77n hS (by decide +kernel) okv (hCk w f).2.1 h1 h2 hi hj h
    refine ⟨_, ?_, a1, a2⟩
    rw [hR, show dA w 33 = dA w0 33 from by funext q; unfold dA; rw [FM_a f (by decide)], show vcl w v = vcl w0 v from by
      funext q
      exact vcl_FMv hS0 f okv (by simp <;> omega) (by simp <;> omega) (by simp <;> omega) (by simp <;> omega) (by simp <;> omega) (by simp <;> omega) (by simp <;> omega) q]
  intro k
  induction k with
  | zero => exact ⟨fun _ _ _ _ _ _ _ _ _ _ _ _ _ _ _ _ _ _ h => (PS_0 h).elim, fun _ _ _ _ _ _ _ _ _ _ _ _ _ _ _ _ _ _ _ _ _ _ _ _ h => (PS_0 h).elim⟩
  | succ k ih =>
    obtain ⟨ih0, ih45⟩ := ih
    refine ⟨fun w d c V i2 i3 r w' fm h2 d2 d6 hc hv hp hm hB hV h => ?_, fun w d c p V i1 i2 i3 i4 r w' fm h1 d2 d6 hc hv hp hm h3 h4 hpP hB hV h => ?_⟩
    · have hS : SK w := fm.2.2.2
      obtain ⟨a1, a2, a3, a4, a5, a6, a7, a8, a9, a10⟩ := hCk w fm
      have hel : ∀ i, i < d → elN a b d c i < P := hv.1
      obtain ⟨_, _, h⟩ := U135_0 hS h
      have x1 : (aG w 66 (i2 - 1)).toInt = elN a b d c (d - 1) := by
        rw [aG_n (m := d - 1) (by rw [zi_sub h2 o32 (by omega) (by omega)]; omega)]
        exact hp (d - 1) (by omega)
      have x0 : (aG w 66 0).toInt = a := by rw [aG_n (m := 0) z32]; exact hp 0 (by omega)
      have ha : a < P := hel 0 (by omega)
      have hl : elN a b d c (d - 1) < P := hel (d - 1) (by omega)
      rw [a1] at h
      obtain ⟨zr, hz, h⟩ := use_z hS h (fun _ _ t => room w _ _ _ _ _ _ _ fm x1 x0 (by omega) (by omega) t)
      have step : ∀ (wj : pm_W), FM srF srA w0 wj → (∀ i, i < d → ((gA wj 66).getD i 0).toInt = elN a b d c i) → SBw wj P so fe rk a b (fun m x => V m x ∨ (m = d ∧ x = c ∧ VRg R P y a b d c)) → (if i2 < 6 then (PS X k 135 45 [.ref 55, .int i2, .int i3, .int (aG w 66 (i2 - 1)), .int 0] [] wj r w') else (r = none ∧ w' = wj)) → r = none ∧ FM srF srA w0 w' ∧ (∀ i, i < d → ((gA w' 66).getD i 0).toInt = elN a b d c i) ∧ SBw w' P so fe rk a b (fun m x => V m x ∨ EXr R P y a b d c m x) := by
        intro wj fj hpj hBj hh
        by_cases c6 : i2 < 6
        · rw [if_pos c6] at hh
          rw [Int32.lt_iff_toInt_lt, h2, e6] at c6
          refine ih45 wj d c 0 V i2 i3 _ 0 _ _ fj h2 d2 (by omega) hc hv hpj hm x1 z32 (Nat.zero_le _) (SBw_cg (fun m x => ?_) hBj) hV hh
          constructor
          · rintro (q | q)
            · exact Or.inl q
            · exact Or.inr (Or.inl q)
          · rintro (q | q | ⟨p', q, _⟩)
            · exact Or.inl q
            · exact Or.inr q
            · exact absurd q (Nat.not_lt_zero _)
        · rw [if_neg c6] at hh
          rw [Int32.lt_iff_toInt_lt, h2, e6] at c6
          rw [hh.2]
          refine ⟨hh.1, fj, hpj, SBw_cg (fun m x => ?_) hBj⟩
          rw [EXr_self d2]
          constructor
          · rintro (q | q)
            · exact Or.inl q
            · exact Or.inr (Or.inl q)
          · rintro (q | q | ⟨p', _, q⟩)
            · exact Or.inl q
            · exact Or.inr q
            · exact absurd q (EXr_6 (by omega))
      by_cases cr : zr < gI w 55 2
      · rw [if_pos cr] at h
        rw [Int32.lt_iff_toInt_lt, hz, a8] at cr
        refine step w fm hp (SBw_cg (fun m x => ⟨Or.inl, fun q => ?_⟩) hB) h
        rcases q with q | ⟨_, _, q⟩
        · exact q
        · have := q.2.2.2.2
          omega
      · rw [if_neg cr] at h
        rw [Int32.lt_iff_toInt_lt, hz, a8] at cr
        obtain ⟨q4, w5, y5, h⟩ := h
        obtain ⟨b1, f5, b2⟩ := F136 hS (hCk w fm) ⟨d2, d6⟩ hel hp h2 hB (fun c' hq => by
          have := hV d c' hq (Nat.le_refl d)
          rw [Nat.sub_self, Nat.pow_zero, Nat.div_one] at this
          exact this) y5
        have h := h b1 f5.2.2.2
        refine step w5 (FM_trans fm (FM_mono f5 (fun _ h => h) (by decide))) (fun i hi => by rw [FM_a f5 (by decide)]; exact hp i hi) (SBw_cg (fun m x => ?_) b2) h
        have vr : VRg R P y a b d c := ⟨d2, d6, hc, hv, by omega⟩
        constructor
        · rintro (q | ⟨q1, q2⟩)
          · exact Or.inl q
          · exact Or.inr ⟨q1, q2, vr⟩
        · rintro (q | ⟨q1, q2, _⟩)
          · exact Or.inl q
          · exact Or.inr ⟨q1, q2⟩
    · have hS : SK w := fm.2.2.2
      obtain ⟨a1, a2, a3, a4, a5, a6, a7, a8, a9, a10⟩ := hCk w fm
      have hel : ∀ i, i < d → elN a b d c i < P := hv.1
      have h := U135_45 hS h
      rw [a1, a2] at h
      by_cases cp : gI w v 0 ≤ i4
      · rw [if_pos cp] at h
        rw [Int32.le_iff_toInt_le, a4, h4] at cp
        have e : p = P := by omega
        rw [h.2]
        refine ⟨h.1, fm, hp, SBw_cg (fun m x => ?_) hB⟩
        rw [EXr_self d2]
        constructor
        · rintro (q | q | ⟨p', q1, q2⟩)
          · exact Or.inl q
          · exact Or.inr (Or.inl q)
          · exact Or.inr (Or.inr ⟨p', by omega, q2⟩)
        · rintro (q | q | ⟨p', q1, q2⟩)
          · exact Or.inl q
          · exact Or.inr (Or.inl q)
          · refine Or.inr (Or.inr ⟨p', ?_, q2⟩)
            by_cases cq : p' < p
            · exact cq
            · exact absurd q2 (EXr_no (by omega) (fun z => by have := ((VPr_ext d2 q1).mp z).2.1; omega))
      · rw [if_neg cp] at h
        rw [Int32.le_iff_toInt_le, a4, h4] at cp
        have e1 : (i4 + 1).toInt = ((p + 1 : Nat) : Int) := by rw [zi_inc (n := 40) (by omega) (by omega), h4]; rfl
        have p9 : p < 9 := by omega
        have skip : ¬ VPr R P y a b (d + 1) (9 * c + p) → PS X k 135 45 [.ref 55, .int i1, .int i2, .int i3, .int (i4 + 1)] [] w r w' → r = none ∧ FM srF srA w0 w' ∧ (∀ i, i < d → ((gA w' 66).getD i 0).toInt = elN a b d c i) ∧ SBw w' P so fe rk a b (fun m x => V m x ∨ EXr R P y a b d c m x) := by
          intro hn hh
          refine ih45 w d c (p + 1) V i1 i2 i3 _ _ _ fm h1 d2 d6 hc hv hp hm h3 e1 (by omega) (SBw_cg (fun m x => ?_) hB) hV hh
          constructor
          · rintro (q | q | ⟨p', q1, q2⟩)
            · exact Or.inl q
            · exact Or.inr (Or.inl q)
            · exact Or.inr (Or.inr ⟨p', by omega, q2⟩)
          · rintro (q | q | ⟨p', q1, q2⟩)
            · exact Or.inl q
            · exact Or.inr (Or.inl q)
            · by_cases cq : p' = p
              · rw [cq] at q2
                exact absurd q2 (EXr_no (by omega) hn)
              · exact Or.inr (Or.inr ⟨p', by omega, q2⟩)
        have h := use_p hS h (fun _ _ y => F89m hS hm h4 p9 (by decide) y)
        cases hs : snN a b d c p with
        | true =>
          rw [hs, if_neg (by decide +kernel)] at h
          obtain ⟨i, hi, e⟩ := snN_t.mp hs
          exact skip (fun z => ((VPr_ext d2 p9).mp z).2.2.1 i hi e) h
        | false =>
          rw [hs, if_pos (by decide +kernel), a1] at h
          have hl : elN a b d c (d - 1) < P := hel (d - 1) (by omega)
          obtain ⟨zr, hz, h⟩ := use_z hS h (fun _ _ t => room w _ _ _ _ _ _ _ fm h3 h4 (by omega) p9 t)
          by_cases cr : zr < gI w 55 2
          · rw [if_pos cr] at h
            rw [Int32.lt_iff_toInt_lt, hz, a8] at cr
            exact skip (fun z => by have := ((VPr_ext d2 p9).mp z).2.2.2; omega) h
          · rw [if_neg cr] at h
            rw [Int32.lt_iff_toInt_lt, hz, a8] at cr
            obtain ⟨_, h⟩ := h
            obtain ⟨q8, w9, y9, h⟩ := h _ rfl
            have f1 : FM srF srA w (aS w 66 i1 i4) := FM_aS hS (by decide)
            have ms := fun i => aS66 (x := i4) hS h1 d6 i
            have hv' : VPr R P y a b (d + 1) (9 * c + p) := (VPr_ext d2 p9).mpr ⟨hv, by omega, fun i hi e => by
              have := snN_t.mpr ⟨i, hi, e⟩
              rw [hs] at this
              exact Bool.noConfusion this, by omega⟩
            have hc' : 9 * c + p < 9 ^ (d + 1 - 2) := by
              rw [show d + 1 - 2 = (d - 2).succ by omega, Nat.pow_succ]
              omega
            obtain ⟨b1, b2, b3, b4⟩ := ih0 (aS w 66 i1 i4) (d + 1) (9 * c + p) (fun m x => V m x ∨ (m = d ∧ x = c ∧ VRg R P y a b d c) ∨ ∃ p', p' < p ∧ EXr R P y a b (d + 1) (9 * c + p') m x) (i1 + 1) (i2 ||| (1 <<< (i4 &&& 31))) _ _ (FM_trans fm f1) (by rw [zi_inc (n := 40) (by omega) (by omega), h1]; rfl) (by omega) (by omega) hc' hv' (fun i hi => by
              rw [ms i]
              by_cases e : i = d
              · rw [if_pos e, e, elN_hi d2 p9]; exact h4
              · rw [if_neg e, elN_lo d2 p9 (by omega)]; exact hp i (by omega)) (MSK_cg (MSK_ob hm h4 p9 (by decide)) (fun q _ => snN_s d2 p9)) (SBw_fm hB (FM_aS hS (by decide) : FM [] [66] w (aS w 66 i1 i4)) (by simp) (by decide)) (fun m' c' hq hd => by
              rcases hq with q | ⟨q, _⟩ | ⟨p', q1, q2⟩
              · have z := hV m' c' q (by omega)
                rw [show m' - d = (m' - (d + 1)).succ by omega, Nat.pow_succ, ← Nat.div_div_eq_div_mul] at z
                omega
              · omega
              · rw [q2.2.2]; omega) y9
            have h := h b1 b2.2.2.2
            refine ih45 w9 d c (p + 1) V i1 i2 i3 _ _ _ b2 h1 d2 d6 hc hv (fun i hi => by rw [b3 i (by omega), elN_lo d2 p9 hi]) hm h3 e1 (by omega) (SBw_cg (fun m x => ?_) b4) hV h
            constructor
            · rintro ((q | q | ⟨p', q1, q2⟩) | q)
              · exact Or.inl q
              · exact Or.inr (Or.inl q)
              · exact Or.inr (Or.inr ⟨p', by omega, q2⟩)
              · exact Or.inr (Or.inr ⟨p, by omega, q⟩)
            · rintro (q | q | ⟨p', q1, q2⟩)
              · exact Or.inl (Or.inl q)
              · exact Or.inl (Or.inr (Or.inl q))
              · by_cases cq : p' = p
                · rw [cq] at q2; exact Or.inr q2
                · exact Or.inl (Or.inr (Or.inr ⟨p', by omega, q2⟩))
end JHA
