/-! ===== acts played on both sides leave like states ===== -/
section HE
variable {p1 p2 p3 x1 y1 M nn : Int32} {n i v j m N K P k t s b Q : Nat} {D D' G G' G1 G2 V E : Nat → Int32} {o o1 o2 : AO}
theorem ERg_m {m' : Nat} (h : ERg E m) (h' : ERg E m') : m' = m := by
  obtain ⟨a1, a2, a3, a4, a5⟩ := h
  obtain ⟨b1, b2, b3, b4, b5⟩ := h'
  have m1 : ((-1 : Int32)).toInt = -1 := by decide +kernel
  rcases Nat.lt_trichotomy m' m with c | c | c
  · have z := b5 m' (Nat.le_refl _) (by omega)
    have y := a3 m' c
    rw [z, m1] at y
    omega
  · exact c
  · have z := a5 m (Nat.le_refl _) (by omega)
    have y := b3 m c
    rw [z, m1] at y
    omega
theorem E_lt (h : ERg E m) (hi : i < m) : eWho E i < 9 ∧ eNx E m i < 9 := ⟨(E_who h.2.2.1 hi).2, E_nx h.2.2.1 hi⟩
theorem E_ne (h : ERg E m) (hi : i < m) (hj : j < m) (hij : i ≠ j) : eWho E i ≠ eWho E j := by
  have a := (E_who h.2.2.1 hi).1
  have c := (E_who h.2.2.1 hj).1
  intro z
  rcases Nat.lt_or_gt_of_ne hij with q | q
  · exact h.2.2.2.1 i j q hj (by rw [a, c, z])
  · exact h.2.2.2.1 j i q hi (by rw [a, c, z])
theorem E_nn (h : ERg E m) (hi : i < m) : eWho E i ≠ eNx E m i := by
  have m2 := h.1
  unfold eNx
  by_cases c : i + 1 < m
  · rw [if_pos c]; exact E_ne h hi c (by omega)
  · rw [if_neg c]; exact E_ne h hi (by omega) (by omega)
theorem eCl_ne (h : ERg E m) (hi : i < m) (hj : j < m) (hij : i ≠ j) : eCl E m i ≠ eCl E m j := by
  have a := E_lt h hi
  have c := E_lt h hj
  have d := E_ne h hi hj hij
  unfold eCl
  omega
theorem adD_q (h : ERg E m) : ∀ i, i ≤ m → ∀ q, ((∃ j, j < i ∧ q = eCl E m j) → adD E m nn i D q = D q + nn) ∧ ((¬ ∃ j, j < i ∧ q = eCl E m j) → adD E m nn i D q = D q)
  | 0, _, q => ⟨fun ⟨j, hj, _⟩ => absurd hj (Nat.not_lt_zero j), fun _ => rfl⟩
  | i + 1, hi, q => by
    have e : adD E m nn (i + 1) D q = if q = eCl E m i then adD E m nn i D (eCl E m i) + nn else adD E m nn i D q := rfl
    have z := adD_q h i (by omega)
    rw [e]
    by_cases c : q = eCl E m i
    · rw [if_pos c]
      have y := (z (eCl E m i)).2 (fun ⟨j, hj, hq⟩ => eCl_ne h (by omega) (by omega) (by omega) hq)
      rw [y]
      exact ⟨fun _ => by rw [c], fun hn => absurd ⟨i, by omega, c⟩ hn⟩
    · rw [if_neg c]
      refine ⟨fun ⟨j, hj, hq⟩ => (z q).1 ⟨j, ?_, hq⟩, fun hn => (z q).2 (fun ⟨j, hj, hq⟩ => hn ⟨j, by omega, hq⟩)⟩
      by_cases e2 : j = i
      · rw [e2] at hq; exact absurd hq c
      · omega
/-- room bounds what may be added -/
theorem rm_b {x y : Nat} (hV : VW V) (hD : WD P D) (hx : x < 9) (hy : y < 9) (hxy : x ≠ y) (hn : 1 ≤ nn.toInt) (h : nn.toInt ≤ (rmI V D x y).toInt) : 0 ≤ (D (9 * x + y) + nn).toInt ∧ (D (9 * x + y) + nn).toInt ≤ 99 := by
  unfold rmI at h
  rw [if_neg hxy] at h
  have v1 := hV (9 * y + x) (by omega)
  have d1 := hD.1 (9 * x + y)
  have e : (V (3 + (9 * y + x)) - D (9 * x + y)).toInt = (V (3 + (9 * y + x))).toInt - (D (9 * x + y)).toInt := zi_sub rfl rfl (by omega) (by omega)
  rw [e] at h
  by_cases c : 0 < (V (3 + (9 * y + x))).toInt - (D (9 * x + y)).toInt
  · rw [if_pos c, e] at h
    rw [show (D (9 * x + y) + nn).toInt = (D (9 * x + y)).toInt + nn.toInt from zi_add rfl rfl (by omega) (by omega)]
    omega
  · rw [if_neg c, z32] at h
    omega
theorem WD_up {x y : Nat} {z : Int32} (hD : WD P D) (hP : P ≤ 9) (hx : x < P) (hy : y < P) (hz : 0 ≤ z.toInt ∧ z.toInt ≤ 99) : WD P (updc D (9 * x + y) z) := by
  refine ⟨fun q => ?_, fun a c ha hc hac => ?_⟩
  · unfold updc
    by_cases e : q = 9 * x + y
    · rw [if_pos e]; exact hz
    · rw [if_neg e]; exact hD.1 q
  · unfold updc
    rw [if_neg (by omega)]
    exact hD.2 a c ha hc hac
theorem WD_ad (hV : VW V) (hD : WD P D) (hP : P ≤ 9) (hE : ERg E m) (hn : 1 ≤ nn.toInt) (hf : fitS P V D E m nn) : WD P (adD E m nn m D) := by
  refine ⟨fun q => ?_, fun a c ha hc hac => ?_⟩
  · obtain ⟨z1, z2⟩ := adD_q (nn := nn) (D := D) hE m (Nat.le_refl _) q
    by_cases e : ∃ j, j < m ∧ q = eCl E m j
    · rw [z1 e]
      obtain ⟨j, hj, hq⟩ := e
      have l := E_lt hE hj
      rw [hq]
      exact rm_b hV hD l.1 l.2 (E_nn hE hj) hn (hf j hj).2.2
    · rw [z2 e]; exact hD.1 q
  · have z2 := (adD_q (nn := nn) (D := D) hE m (Nat.le_refl _) (9 * a + c)).2
    rw [z2]
    · exact hD.2 a c ha hc hac
    · rintro ⟨j, hj, hq⟩
      have l := hf j hj
      have l9 := E_lt hE hj
      unfold eCl at hq
      have l1 := l.1
      have l2 := l.2.1
      omega
theorem WR_cg (h : WRg P G k) (e : ∀ q, 10 * k ≤ q → q < 10 * k + 10 → G' q = G q) : WRg P G' k := by
  obtain ⟨h1, h2, h3, h4, h5, h6, h7, h8, h9⟩ := h
  have e0 := e (10 * k) (by omega) (by omega)
  have my : rMy G' k = rMy G k := by unfold rMy; rw [e0]
  have m6 : rMy G k ≤ 6 := by unfold rMy; omega
  refine ⟨by rw [e0]; exact h1, by rw [e0]; exact h2, by rw [e _ (by omega) (by omega)]; exact h3, by rw [e _ (by omega) (by omega)]; exact h4, by rw [e _ (by omega) (by omega)]; exact h5, by rw [e _ (by omega) (by omega)]; exact h6, by rw [e _ (by omega) (by omega)]; exact h7, fun i hi => ?_, fun i j hij hj => ?_⟩
  · rw [my] at hi
    rw [e _ (by omega) (by omega)]
    exact h8 i hi
  · rw [my] at hj
    unfold rWho
    rw [e _ (by omega) (by omega), e _ (by omega) (by omega)]
    exact h9 i j hij hj
/-- like states -/
def LK (P : Nat) (D G1 G2 : Nat → Int32) (N : Nat) : Prop := RG2 N G1 G2 ∧ WS P N (D, G1) ∧ WS P N (D, G2)
theorem LK_new {till : Int32} (hP : P ≤ 9) (hV : VW V) (hL : LK P D G1 G2 N) (hE : ERg E m) (hf : fitS P V D E m nn) (hn : 1 ≤ nn.toInt ∧ nn.toInt ≤ 99) (ht : 0 ≤ till.toInt ∧ till.toInt ≤ 99) : LK P (adD E m nn m D) (rgW E N m (rg4 N (Int32.ofNat m) nn till G1)) (rgW E N m (rg4 N (Int32.ofNat m) nn till G2)) (N + 1) := by
  obtain ⟨h1, h2, h3⟩ := hL
  have m6 := hE.2.1
  obtain ⟨a0, a1, a2, a3, a4, a5⟩ := new_q (N := N) (E := E) (nn := nn) (till := till) (G := G1) m6
  obtain ⟨b0, b1, b2, b3, b4, b5⟩ := new_q (N := N) (E := E) (nn := nn) (till := till) (G := G2) m6
  have wd := WD_ad hV h2.1 hP hE hn.1 hf
  have my : rMy (rgW E N m (rg4 N (Int32.ofNat m) nn till G1)) N = m := by unfold rMy; rw [a0, ofN_i (by omega)]; rfl
  refine ⟨fun k hk i hi => ?_, ⟨wd, fun k hk => ?_⟩, ⟨wd, fun k hk => ?_⟩⟩
  · by_cases e : k = N
    · subst e
      rw [my] at hi
      by_cases i4 : i < 4
      · have c : i = 0 ∨ i = 1 ∨ i = 2 ∨ i = 3 := by omega
        rcases c with rfl | rfl | rfl | rfl
        · rw [Nat.add_zero, a0, b0]
        · rw [a1, b1]
        · rw [a2, b2]
        · rw [a3, b3]
      · obtain ⟨j, rfl⟩ : ∃ j, i = 4 + j := ⟨i - 4, by omega⟩
        rw [show 10 * k + (4 + j) = 10 * k + 4 + j by omega, a4 j (by omega), b4 j (by omega)]
    · have e0 : rMy (rgW E N m (rg4 N (Int32.ofNat m) nn till G1)) k = rMy G1 k := by unfold rMy; rw [a5 _ (by omega)]
      rw [e0] at hi
      have m6' : rMy G1 k ≤ 6 := by have z6 : (G1 (10 * k)).toInt ≤ 6 := (h2.2 k (by omega)).2.1; unfold rMy; exact (by omega)
      rw [a5 _ (by omega), b5 _ (by omega)]
      exact h1 k (by omega) i hi
  · by_cases e : k = N
    · rw [e]; exact WR_new hE hf ⟨by omega, hn.2⟩ ht
    · exact WR_cg (h2.2 k (by omega)) (fun q h1 h2 => a5 q (by omega))
  · by_cases e : k = N
    · rw [e]; exact WR_new hE hf ⟨by omega, hn.2⟩ ht
    · exact WR_cg (h3.2 k (by omega)) (fun q h1 h2 => b5 q (by omega))
theorem LK_fl {c : (Nat → Int32) → Nat → Bool} (hP : P ≤ 9) (hL : LK P D G1 G2 N) (hc : ∀ G1 G2, RG2 N G1 G2 → ∀ k, k < N → c G2 k = c G1 k) : (flS c N (D, G2)).1 = (flS c N (D, G1)).1 ∧ LK P (flS c N (D, G1)).1 (flS c N (D, G1)).2 (flS c N (D, G2)).2 N := by
  obtain ⟨h1, h2, h3⟩ := hL
  obtain ⟨z1, z2⟩ := flS_RG hP h1 h2 hc N (Nat.le_refl _)
  have w1 := WS_flS (c := c) hP h2 N (Nat.le_refl _)
  have w2 := WS_flS (c := c) hP h3 N (Nat.le_refl _)
  exact ⟨z1, z2, w1, ⟨w1.1, w2.2⟩⟩
/-- the same act in like states: both can't be, or like states again -/
theorem ACT_2 (hP : P ≤ 9) (hV : VW V) (hA : VAc E) (hL : LK P D G1 G2 N) (h1 : ACT P V E D G1 M N o1) (h2 : ACT P V E D G2 M N o2) : (o1 = none ∧ o2 = none) ∨ ∃ (D' G1' G2' : Nat → Int32) (M' : Int32) (N' : Nat), o1 = some (D', G1', M', N') ∧ o2 = some (D', G2', M', N') ∧ LK P D' G1' G2' N' ∧ N' ≤ N + 1 ∧ (M' = M ∨ M' = M + 1) := by
  have ne : ∀ {c d : Int32} (z : Int32), z = c → z = d → c ≠ d → False := fun z h1 h2 h3 => h3 (h1.symm.trans h2)
  have hL' := hL
  obtain ⟨l1, l2, l3⟩ := hL
  rcases h1 with ⟨a0, x, y, a1, a2, a3⟩ | ⟨a0, x, y, a1, a2, a3⟩ | ⟨a0, m, a1, a3⟩ | ⟨a0, K, a1, a3⟩ | ⟨a0, m, a1, a3⟩ | ⟨a0, a3⟩
  · rcases h2 with ⟨b0, x', y', b1, b2, b3⟩ | ⟨b0, _⟩ | ⟨b0, _⟩ | ⟨b0, _⟩ | ⟨b0, _⟩ | ⟨b0, _⟩
    · have ex : x' = x := by omega
      have ey : y' = y := by omega
      subst ex
      subst ey
      rcases a3 with ⟨c1, c2, c3, c4⟩ | ⟨c1, c2⟩
      · rcases b3 with ⟨d1, d2, d3, d4⟩ | ⟨d1, d2⟩
        · refine Or.inr ⟨_, _, _, _, _, c4, d4, ?_, by omega, Or.inl rfl⟩
          rcases hA with ⟨_, v1, v2, v3, v4, v5, v6, v7⟩ | ⟨v0, _⟩ | ⟨v0, _⟩ | ⟨v0, _⟩ | v0
          · have wd := WD_up l2.1 hP c1 c2 (rm_b hV l2.1 (by omega) (by omega) (by omega) v6 c3)
            exact ⟨l1, ⟨wd, l2.2⟩, ⟨wd, l3.2⟩⟩
          · exact (ne _ a0 v0 (by decide +kernel)).elim
          · exact (ne _ a0 v0 (by decide +kernel)).elim
          · exact (ne _ a0 v0 (by decide +kernel)).elim
          · exact (ne _ a0 v0 (by decide +kernel)).elim
        · exact absurd ⟨c1, c2, c3⟩ d1
      · rcases b3 with ⟨d1, d2, d3, d4⟩ | ⟨d1, d2⟩
        · exact absurd ⟨d1, d2, d3⟩ c1
        · exact Or.inl ⟨c2, d2⟩
    · exact (ne _ a0 b0 (by decide +kernel)).elim
    · exact (ne _ a0 b0 (by decide +kernel)).elim
    · exact (ne _ a0 b0 (by decide +kernel)).elim
    · exact (ne _ a0 b0 (by decide +kernel)).elim
    · exact (ne _ a0 b0 (by decide +kernel)).elim
  · rcases h2 with ⟨b0, _⟩ | ⟨b0, x', y', b1, b2, b3⟩ | ⟨b0, _⟩ | ⟨b0, _⟩ | ⟨b0, _⟩ | ⟨b0, _⟩
    · exact (ne _ a0 b0 (by decide +kernel)).elim
    · have ex : x' = x := by omega
      have ey : y' = y := by omega
      subst ex
      subst ey
      rcases a3 with ⟨c1, c2, c3, c4⟩ | ⟨c1, c2⟩
      · rcases b3 with ⟨d1, d2, d3, d4⟩ | ⟨d1, d2⟩
        · refine Or.inr ⟨_, _, _, _, _, c4, d4, ?_, by omega, Or.inl rfl⟩
          rcases hA with ⟨_, v1, v2, v3, v4, v5, v6, v7⟩ | ⟨v0, _⟩ | ⟨v0, _⟩ | ⟨v0, _⟩ | v0
          · have d9 := l2.1.1 (9 * x' + y')
            have wd := WD_up (z := D (9 * x' + y') - E 3) l2.1 hP c1 c2 (by
              have d9 : 0 ≤ (D (9 * x' + y')).toInt ∧ (D (9 * x' + y')).toInt ≤ 99 := d9
              rw [show (D (9 * x' + y') - E 3).toInt = (D (9 * x' + y')).toInt - (E 3).toInt from zi_sub rfl rfl (by omega) (by omega)]
              omega)
            exact ⟨l1, ⟨wd, l2.2⟩, ⟨wd, l3.2⟩⟩
          · exact (ne _ a0 v0 (by decide +kernel)).elim
          · exact (ne _ a0 v0 (by decide +kernel)).elim
          · exact (ne _ a0 v0 (by decide +kernel)).elim
          · exact (ne _ a0 v0 (by decide +kernel)).elim
        · exact absurd ⟨c1, c2, c3⟩ d1
      · rcases b3 with ⟨d1, d2, d3, d4⟩ | ⟨d1, d2⟩
        · exact absurd ⟨d1, d2, d3⟩ c1
        · exact Or.inl ⟨c2, d2⟩
    · exact (ne _ a0 b0 (by decide +kernel)).elim
    · exact (ne _ a0 b0 (by decide +kernel)).elim
    · exact (ne _ a0 b0 (by decide +kernel)).elim
    · exact (ne _ a0 b0 (by decide +kernel)).elim
  · rcases h2 with ⟨b0, _⟩ | ⟨b0, _⟩ | ⟨b0, m', b1, b3⟩ | ⟨b0, _⟩ | ⟨b0, _⟩ | ⟨b0, _⟩
    · exact (ne _ a0 b0 (by decide +kernel)).elim
    · exact (ne _ a0 b0 (by decide +kernel)).elim
    · have em := ERg_m a1 b1
      subst em
      rcases a3 with ⟨c1, c4⟩ | ⟨c1, c2⟩
      · rcases b3 with ⟨d1, d4⟩ | ⟨d1, d2⟩
        · refine Or.inr ⟨_, _, _, _, _, c4, d4, ?_, by omega, Or.inl rfl⟩
          rcases hA with ⟨v0 | v0, _⟩ | ⟨_, v1, v2, v3, v4, _⟩ | ⟨v0, _⟩ | ⟨v0, _⟩ | v0
          · exact (ne _ a0 v0 (by decide +kernel)).elim
          · exact (ne _ a0 v0 (by decide +kernel)).elim
          · exact LK_new hP hV hL' a1 c1 ⟨v1, v2⟩ ⟨v3, v4⟩
          · exact (ne _ a0 v0 (by decide +kernel)).elim
          · exact (ne _ a0 v0 (by decide +kernel)).elim
          · exact (ne _ a0 v0 (by decide +kernel)).elim
        · exact absurd c1 d1
      · rcases b3 with ⟨d1, d4⟩ | ⟨d1, d2⟩
        · exact absurd d1 c1
        · exact Or.inl ⟨c2, d2⟩
    · exact (ne _ a0 b0 (by decide +kernel)).elim
    · exact (ne _ a0 b0 (by decide +kernel)).elim
    · exact (ne _ a0 b0 (by decide +kernel)).elim
  · rcases h2 with ⟨b0, _⟩ | ⟨b0, _⟩ | ⟨b0, _⟩ | ⟨b0, K', b1, b3⟩ | ⟨b0, _⟩ | ⟨b0, _⟩
    · exact (ne _ a0 b0 (by decide +kernel)).elim
    · exact (ne _ a0 b0 (by decide +kernel)).elim
    · exact (ne _ a0 b0 (by decide +kernel)).elim
    · have ex : K' = K := by omega
      subst ex
      rcases a3 with ⟨c1, c2, c4⟩ | ⟨c1, c2⟩
      · rcases b3 with ⟨d1, d2, d4⟩ | ⟨d1, d2⟩
        · have h1 : 1 ≤ rMy G1 K' := by have z6 : 2 ≤ (G1 (10 * K')).toInt := (l2.2 K' c1).1; unfold rMy; exact (by omega)
          have ed : (strk K' (D, G2)).1 = (strk K' (D, G1)).1 := by
            show stD G2 K' (rMy G2 K') D = stD G1 K' (rMy G1 K') D
            rw [RG2_my l1 c1, RG2_stD l1 c1 h1 _ (Nat.le_refl _)]
          rw [ed] at d4
          have w1 := WS_strk hP l2 c1
          have w2 := WS_strk hP l3 c1
          exact Or.inr ⟨_, _, _, _, _, c4, d4, ⟨RG2_stG l1, w1, ⟨w1.1, w2.2⟩⟩, by omega, Or.inl rfl⟩
        · exact absurd ⟨c1, by rw [opn_RG l1 c1]; exact c2⟩ d1
      · rcases b3 with ⟨d1, d2, d4⟩ | ⟨d1, d2⟩
        · exact absurd ⟨d1, by rw [← opn_RG l1 d1]; exact d2⟩ c1
        · exact Or.inl ⟨c2, d2⟩
    · exact (ne _ a0 b0 (by decide +kernel)).elim
    · exact (ne _ a0 b0 (by decide +kernel)).elim
  · rcases h2 with ⟨b0, _⟩ | ⟨b0, _⟩ | ⟨b0, _⟩ | ⟨b0, _⟩ | ⟨b0, m', b1, b3⟩ | ⟨b0, _⟩
    · exact (ne _ a0 b0 (by decide +kernel)).elim
    · exact (ne _ a0 b0 (by decide +kernel)).elim
    · exact (ne _ a0 b0 (by decide +kernel)).elim
    · exact (ne _ a0 b0 (by decide +kernel)).elim
    · have ex : m' = m := by omega
      subst ex
      rcases a3 with ⟨c1, c4⟩ | ⟨c1, c2⟩
      · rcases b3 with ⟨d1, d4⟩ | ⟨d1, d2⟩
        · obtain ⟨z1, z2, z3, z4⟩ := LK_fl (c := cF m') hP hL' (fun G1 G2 h k hk => cF_RG h hk)
          rw [z1] at d4
          have wz := WD_zrL (n := P) (m := m') (by omega) z3.1 hP
          exact Or.inr ⟨_, _, _, _, _, c4, d4, ⟨z2, ⟨wz, z3.2⟩, ⟨wz, z4.2⟩⟩, by omega, Or.inl rfl⟩
        · exact absurd c1 d1
      · rcases b3 with ⟨d1, d4⟩ | ⟨d1, d2⟩
        · exact absurd d1 c1
        · exact Or.inl ⟨c2, d2⟩
    · exact (ne _ a0 b0 (by decide +kernel)).elim
  · rcases h2 with ⟨b0, _⟩ | ⟨b0, _⟩ | ⟨b0, _⟩ | ⟨b0, _⟩ | ⟨b0, _⟩ | ⟨b0, b3⟩
    · exact (ne _ a0 b0 (by decide +kernel)).elim
    · exact (ne _ a0 b0 (by decide +kernel)).elim
    · exact (ne _ a0 b0 (by decide +kernel)).elim
    · exact (ne _ a0 b0 (by decide +kernel)).elim
    · exact (ne _ a0 b0 (by decide +kernel)).elim
    · obtain ⟨z1, z2⟩ := LK_fl (c := cM (M + 1)) hP hL' (fun G1 G2 h k hk => cM_RG h hk)
      rw [z1] at b3
      exact Or.inr ⟨_, _, _, _, _, a3, b3, z2, by omega, Or.inr rfl⟩
end HE
