/-! ===== rings through one: how many there are; the class counts them ===== -/
section JUA
variable {X : pm_X} {k k2 : Nat} {w0 w w1 w2 w3 w4 w5 wj w' : pm_W} {r r2 q0 q1 q2 : Option Value} {p1 p2 p3 p4 p5 i1 i2 i3 i4 i5 i6 i7 i8 z z1 z2 x : Int32} {i v j m c m' c' u P t s a d p q M n : Nat} {e g y : Int} {f h : Nat → Int} {R : Nat → Nat → Int}
theorem su_le (hn : ∀ i, i < m → 0 ≤ f i) : ∀ n, n ≤ m → suI f n ≤ suI f m := by
  induction m with
  | zero => intro n h; rw [show n = 0 by omega]; exact Int.le_refl _
  | succ m ih =>
    intro n h
    by_cases e : n = m + 1
    · rw [e]; exact Int.le_refl _
    · have a := ih (fun i hi => hn i (by omega)) n (by omega)
      have b := hn m (by omega)
      show suI f n ≤ suI f m + f m
      omega
theorem su_app : ∀ n, suI f (m + n) = suI f m + suI (fun i => f (m + i)) n
  | 0 => (Int.add_zero _).symm
  | n + 1 => by
    show suI f (m + n) + f (m + n) = suI f m + (suI (fun i => f (m + i)) n + f (m + n))
    rw [su_app n]
    omega
theorem su_mul : ∀ n, suI f (m * n) = suI (fun p => suI (fun i => f (m * p + i)) m) n
  | 0 => rfl
  | n + 1 => by
    show suI f (m * n + m) = suI (fun p => suI (fun i => f (m * p + i)) m) n + suI (fun i => f (m * n + i)) m
    rw [su_app, su_mul n]
theorem su_shift : ∀ n, suI f (n + 1) = f 0 + suI (fun j => f (j + 1)) n
  | 0 => by show 0 + f 0 = f 0 + 0; omega
  | n + 1 => by
    show suI f (n + 1) + f (n + 1) = f 0 + (suI (fun j => f (j + 1)) n + f (n + 1))
    rw [su_shift n]
    omega
theorem su_9 (h : ∀ i, i < 9 → 0 ≤ f i ∧ f i + 1 ≤ e) : 0 ≤ suI f 9 ∧ suI f 9 + 9 ≤ 9 * e := by
  have a0 := h 0 (by decide)
  have a1 := h 1 (by decide)
  have a2 := h 2 (by decide)
  have a3 := h 3 (by decide)
  have a4 := h 4 (by decide)
  have a5 := h 5 (by decide)
  have a6 := h 6 (by decide)
  have a7 := h 7 (by decide)
  have a8 := h 8 (by decide)
  show 0 ≤ 0 + f 0 + f 1 + f 2 + f 3 + f 4 + f 5 + f 6 + f 7 + f 8 ∧ 0 + f 0 + f 1 + f 2 + f 3 + f 4 + f 5 + f 6 + f 7 + f 8 + 9 ≤ 9 * e
  omega
/-- who is at i in the ring of m through a, with number c -/
def sgE (a m c i : Nat) : Nat := if i = 0 then a else c / 9 ^ (m - 1 - i) % 9
theorem sgE_pre (hm : d ≤ m) (hi : i < d) : sgE a d (c / 9 ^ (m - d)) i = sgE a m c i := by
  unfold sgE
  by_cases h0 : i = 0
  · rw [if_pos h0, if_pos h0]
  · rw [if_neg h0, if_neg h0, Nat.div_div_eq_div_mul, ← Nat.pow_add, show m - d + (d - 1 - i) = m - 1 - i by omega]
theorem sgE_lo (hp : p < 9) (hi : i < d) : sgE a (d + 1) (9 * c + p) i = sgE a d c i := by
  rw [← sgE_pre (d := d) (Nat.le_succ d) hi, show d + 1 - d = 1 by omega, Nat.pow_one, show (9 * c + p) / 9 = c by omega]
theorem sgE_hi (hd : 1 ≤ d) (hp : p < 9) : sgE a (d + 1) (9 * c + p) d = p := by
  unfold sgE
  rw [if_neg (by omega), show d + 1 - 1 - d = 0 by omega, Nat.pow_zero, Nat.div_one]
  omega
theorem sgE_0 : sgE a m c 0 = a := rfl
theorem sgE_9 (ha : a < 9) : sgE a m c i < 9 := by
  unfold sgE
  by_cases h0 : i = 0
  · rw [if_pos h0]; exact ha
  · rw [if_neg h0]; exact Nat.mod_lt _ (by decide)
/-- one after another, as far as it goes -/
def sgP (R : Nat → Nat → Int) (P : Nat) (y : Int) (a m c : Nat) : Prop := RNd P (sgE a m c) m ∧ ∀ i, i + 1 < m → y ≤ R (sgE a m c i) (sgE a m c (i + 1))
/-- a ring -/
def sgV (R : Nat → Nat → Int) (P : Nat) (y : Int) (a m c : Nat) : Prop := 2 ≤ m ∧ RNd P (sgE a m c) m ∧ ∀ i, i < m → y ≤ R (sgE a m c i) (sgE a m c ((i + 1) % m))
theorem sgV_P : sgV R P y a m c ↔ 2 ≤ m ∧ sgP R P y a m c ∧ y ≤ R (sgE a m c (m - 1)) a := by
  constructor
  · rintro ⟨h0, h1, h3⟩
    refine ⟨h0, ⟨h1, fun i hi => ?_⟩, ?_⟩
    · have q := h3 i (by omega)
      rw [Nat.mod_eq_of_lt hi] at q
      exact q
    · have q := h3 (m - 1) (by omega)
      rw [show m - 1 + 1 = m by omega, Nat.mod_self] at q
      exact q
  · rintro ⟨h0, ⟨h1, h3⟩, h4⟩
    refine ⟨h0, h1, fun i hi => ?_⟩
    by_cases e : i + 1 < m
    · rw [Nat.mod_eq_of_lt e]; exact h3 i e
    · rw [show i + 1 = m by omega, Nat.mod_self, show i = m - 1 by omega]; exact h4
theorem sgP_ext (hd : 1 ≤ d) (hp : p < 9) : sgP R P y a (d + 1) (9 * c + p) ↔ sgP R P y a d c ∧ p < P ∧ (∀ i, i < d → sgE a d c i ≠ p) ∧ y ≤ R (sgE a d c (d - 1)) p := by
  constructor
  · rintro ⟨⟨h1, h2⟩, h3⟩
    refine ⟨⟨⟨fun i hi => ?_, fun i j hij hj => ?_⟩, fun i hi => ?_⟩, ?_, fun i hi => ?_, ?_⟩
    · have := h1 i (by omega); rw [sgE_lo hp hi] at this; exact this
    · have := h2 i j hij (by omega); rw [sgE_lo hp (by omega), sgE_lo hp hj] at this; exact this
    · have := h3 i (by omega); rw [sgE_lo hp (by omega), sgE_lo hp hi] at this; exact this
    · have := h1 d (Nat.lt_succ_self d)
      rw [sgE_hi hd hp] at this
      exact this
    · have := h2 i d hi (Nat.lt_succ_self d)
      rw [sgE_hi hd hp, sgE_lo hp hi] at this
      exact this
    · have := h3 (d - 1) (by omega)
      rw [show d - 1 + 1 = d by omega, sgE_hi hd hp, sgE_lo hp (by omega)] at this
      exact this
  · rintro ⟨⟨⟨h1, h2⟩, h3⟩, g1, g2, g3⟩
    refine ⟨⟨fun i hi => ?_, fun i j hij hj => ?_⟩, fun i hi => ?_⟩
    · by_cases e : i = d
      · rw [e, sgE_hi hd hp]; exact g1
      · rw [sgE_lo hp (by omega)]; exact h1 i (by omega)
    · by_cases e : j = d
      · rw [e, sgE_hi hd hp, sgE_lo hp (by omega)]; exact g2 i (by omega)
      · rw [sgE_lo hp (by omega), sgE_lo hp (by omega)]; exact h2 i j hij (by omega)
    · by_cases e : i + 1 = d
      · rw [e, sgE_hi hd hp, sgE_lo hp (by omega), show i = d - 1 by omega]; exact g3
      · rw [sgE_lo hp (by omega), sgE_lo hp (by omega)]; exact h3 i (by omega)
noncomputable def sgI (R : Nat → Nat → Int) (P : Nat) (y : Int) (a m c : Nat) : Int := @ite Int (sgV R P y a m c) (Classical.propDecidable _) 1 0
theorem sgI_t (h : sgV R P y a m c) : sgI R P y a m c = 1 := by unfold sgI; exact @if_pos _ (Classical.propDecidable _) h _ _ _
theorem sgI_f (h : ¬ sgV R P y a m c) : sgI R P y a m c = 0 := by unfold sgI; exact @if_neg _ (Classical.propDecidable _) h _ _ _
theorem sgI_b : 0 ≤ sgI R P y a m c ∧ sgI R P y a m c ≤ 1 := by
  rcases Classical.em (sgV R P y a m c) with h | h
  · rw [sgI_t h]; omega
  · rw [sgI_f h]; omega
/-- all that begin so, of length up to d + e -/
noncomputable def sgC (R : Nat → Nat → Int) (P : Nat) (y : Int) (a : Nat) : Nat → Nat → Nat → Int
  | 0, d, c => sgI R P y a d c
  | n + 1, d, c => sgI R P y a d c + suI (fun p => sgC R P y a n (d + 1) (9 * c + p)) 9
def sgT (f : Nat → Int) : Nat → Nat → Int
  | 0, c => f c
  | n + 1, c => suI (fun p => sgT f n (9 * c + p)) 9
theorem sgT_su : ∀ n c, suI (fun x => f (9 ^ n * c + x)) (9 ^ n) = sgT f n c := by
  intro n
  induction n with
  | zero =>
    intro c
    show 0 + f (1 * c + 0) = f c
    rw [Nat.one_mul, Nat.add_zero]
    omega
  | succ n ih =>
    intro c
    rw [Nat.pow_succ, su_mul]
    show _ = suI (fun p => sgT f n (9 * c + p)) 9
    refine suI_cg 9 (fun p _ => ?_)
    rw [← ih]
    refine suI_cg _ (fun i _ => ?_)
    show f (9 ^ n * 9 * c + (9 ^ n * p + i)) = f (9 ^ n * (9 * c + p) + i)
    rw [Nat.mul_add, ← Nat.mul_assoc, Nat.add_assoc]
theorem sgC_T : ∀ n d c, sgC R P y a n d c = suI (fun j => sgT (sgI R P y a (d + j)) j c) (n + 1) := by
  intro n
  induction n with
  | zero => intro d c; show sgI R P y a d c = 0 + sgI R P y a (d + 0) c; rw [Nat.add_zero]; omega
  | succ n ih =>
    intro d c
    rw [su_shift]
    show sgI R P y a d c + suI (fun p => sgC R P y a n (d + 1) (9 * c + p)) 9 = sgI R P y a (d + 0) c + _
    rw [Nat.add_zero]
    refine congrArg _ ?_
    rw [suI_cg 9 (fun p _ => ih (d + 1) (9 * c + p)), suI_swap]
    refine suI_cg _ (fun j _ => ?_)
    show suI (fun p => sgT (sgI R P y a (d + 1 + j)) j (9 * c + p)) 9 = suI (fun p => sgT (sgI R P y a (d + (j + 1))) j (9 * c + p)) 9
    rw [show d + 1 + j = d + (j + 1) by omega]
theorem sgC_b : ∀ n d c, 0 ≤ sgC R P y a n d c ∧ sgC R P y a n d c + 1 ≤ 2 * 9 ^ n := by
  intro n
  induction n with
  | zero => intro d c; have := sgI_b (R := R) (P := P) (y := y) (a := a) (m := d) (c := c); show 0 ≤ sgI R P y a d c ∧ sgI R P y a d c + 1 ≤ 2 * 1; omega
  | succ n ih =>
    intro d c
    have q := sgI_b (R := R) (P := P) (y := y) (a := a) (m := d) (c := c)
    have q2 := su_9 (f := fun p => sgC R P y a n (d + 1) (9 * c + p)) (e := 2 * 9 ^ n) (fun p _ => ih (d + 1) (9 * c + p))
    show 0 ≤ sgI R P y a d c + suI (fun p => sgC R P y a n (d + 1) (9 * c + p)) 9 ∧ sgI R P y a d c + suI (fun p => sgC R P y a n (d + 1) (9 * c + p)) 9 + 1 ≤ 2 * 9 ^ (n + 1)
    rw [Int.pow_succ]
    omega
theorem sgC_z : ∀ n d c, 1 ≤ d → ¬ sgP R P y a d c → sgC R P y a n d c = 0 := by
  intro n
  induction n with
  | zero => intro d c _ h; exact sgI_f (fun q => h (sgV_P.mp q).2.1)
  | succ n ih =>
    intro d c hd h
    show sgI R P y a d c + suI (fun p => sgC R P y a n (d + 1) (9 * c + p)) 9 = 0
    rw [sgI_f (fun q => h (sgV_P.mp q).2.1), suI_z 9 (fun p hp => ih (d + 1) (9 * c + p) (by omega) (fun q => h ((sgP_ext hd hp).mp q).1))]
    rfl
theorem snE_cg {E E' : Nat → Nat} (h : ∀ i, i < t → E' i = E i) : snE E' t q = snE E t q := by
  apply Bool.eq_iff_iff.mpr
  rw [snE_t, snE_t]
  constructor
  · rintro ⟨i, hi, e⟩; exact ⟨i, hi, by rw [← h i hi]; exact e⟩
  · rintro ⟨i, hi, e⟩; exact ⟨i, hi, by rw [h i hi]; exact e⟩
theorem sgE_sn (hd : 1 ≤ d) (hp : p < 9) : snE (sgE a (d + 1) (9 * c + p)) (d + 1) q = (snE (sgE a d c) d q || decide (q = p)) := by
  rw [snE_s, sgE_hi hd hp, snE_cg (fun i hi => sgE_lo hp hi)]
/-- what is looked at -/
def sgS (w : pm_W) (v P : Nat) (y : Int) : Prop := gR w 55 0 = 33 ∧ gR w 33 0 = v ∧ (gI w v 0).toInt = P ∧ P ≤ 9 ∧ (gI w 55 2).toInt = y
theorem sgS_fm (h : sgS w v P y) (f : FM [] [66] w w') : sgS w' v P y := by
  obtain ⟨a1, a2, a4, a5, a8⟩ := h
  exact ⟨by rw [FM_r f (by simp)]; exact a1, by rw [FM_r f (by simp)]; exact a2, by rw [FM_i f (by simp)]; exact a4, a5, by rw [FM_i f (by simp)]; exact a8⟩
theorem F152_l (hS0 : SK w0) (hC : sgS w0 v P y) (okv : okV v = true) (v30 : v < 30) (hR : ∀ i j, i < 9 → j < 9 → R i j = (rmI (vcl w0 v) (dA w0 33) i j).toInt) (hM : M ≤ 6) (hp4 : p4.toInt = M) : ∀ k : Nat,
    (∀ (w : pm_W) (d c : Nat) (i2 i3 : Int32) (r : Option Value) (w' : pm_W), FM [] [66] w0 w → i2.toInt = d → 1 ≤ d → d ≤ M → sgP R P y a d c → (∀ i, i < d → ((gA w 66).getD i 0).toInt = sgE a d c i) → MSK i3 9 (snE (sgE a d c) d) → PS X k 152 0 [.ref 55, .int i2, .int i3, .int p4, pm_dead, pm_dead, pm_dead] [] w r w' → FM [] [66] w0 w' ∧ (∀ i, i < d → ((gA w' 66).getD i 0).toInt = sgE a d c i) ∧ ∃ z : Int32, r = some (.int z) ∧ z.toInt = sgC R P y a (M - d) d c) ∧
    (∀ (w : pm_W) (d c p n : Nat) (i1 i2 i4 i5 i6 : Int32) (r : Option Value) (w' : pm_W), FM [] [66] w0 w → i1.toInt = d → 1 ≤ d → M = d + 1 + n → sgP R P y a d c → (∀ i, i < d → ((gA w 66).getD i 0).toInt = sgE a d c i) → MSK i2 9 (snE (sgE a d c) d) → i4.toInt = sgE a d c (d - 1) → i6.toInt = p → p ≤ P → i5.toInt = sgI R P y a d c + suI (fun p => sgC R P y a n (d + 1) (9 * c + p)) p → PS X k 152 61 [.ref 55, .int i1, .int i2, .int p4, .int i4, .int i5, .int i6] [] w r w' → FM [] [66] w0 w' ∧ (∀ i, i < d → ((gA w' 66).getD i 0).toInt = sgE a d c i) ∧ ∃ z : Int32, r = some (.int z) ∧ z.toInt = sgC R P y a (n + 1) d c) := by
  have e6 : (6 : Int32).toInt = 6 := by decide +kernel
  obtain ⟨_, _, _, hP9, _⟩ := id hC
  have hCk : ∀ w, FM [] [66] w0 w → sgS w v P y := fun w f => sgS_fm hC f
  have room : ∀ (w : pm_W) (k : Nat) (p1 p2 : Int32) (i j : Nat) (r : Option Value) (w' : pm_W), FM [] [66] w0 w → p1.toInt = i → p2.toInt = j → i < 9 → j < 9 → PS X k 77 0 [.ref 33, .int p1, .int p2] [] w r w' → (∃ z : Int32, z.toInt = R i j ∧ r = some (.int z) ∧ w' = w) := by
    intro w k p1 p2 i j r w' f h1 h2 hi hj h
    have hS : SK w := f.2.2.2
    obtain ⟨a1, a2⟩ := F77n hS (by decide +kernel) okv (hCk w f).2.1 h1 h2 hi hj h
    refine ⟨_, ?_, a1, a2⟩
    rw [hR i j hi hj, show dA w 33 = dA w0 33 from by funext q; unfold dA; rw [FM_a f (by decide)], show vcl w v = vcl w0 v from by
      funext q
      exact vcl_FMv hS0 f okv (by simp) (by simp) (by simp) (by simp <;> omega) (by simp <;> omega) (by simp <;> omega) (by simp <;> omega) q]
  intro k
  induction k with
  | zero => exact ⟨fun _ _ _ _ _ _ _ _ _ _ _ _ _ _ h => (PS_0 h).elim, fun _ _ _ _ _ _ _ _ _ _ _ _ _ _ _ _ _ _ _ _ _ _ _ h => (PS_0 h).elim⟩
  | succ k ih =>
    obtain ⟨ih0, ih61⟩ := ih
    refine ⟨fun w d c i2 i3 r w' fm h2 d1 dM hv hp hm h => ?_, fun w d c p n i1 i2 i4 i5 i6 r w' fm h1 d1 eM hv hp hm h4 h6 hpP h5 h => ?_⟩
    · have hS : SK w := fm.2.2.2
      obtain ⟨a1, a2, a4, a5, a8⟩ := hCk w fm
      have hel : ∀ i, i < d → sgE a d c i < P := hv.1.1
      have x1 : (aG w 66 (i2 - 1)).toInt = sgE a d c (d - 1) := by
        rw [aG_n (m := d - 1) (by rw [zi_sub h2 o32 (by omega) (by omega)]; omega)]
        exact hp (d - 1) (by omega)
      have x0 : (aG w 66 0).toInt = a := by rw [aG_n (m := 0) z32]; exact hp 0 (by omega)
      have ha : a < P := hel 0 (by omega)
      have hl : sgE a d c (d - 1) < P := hel (d - 1) (by omega)
      have step : ∀ (acc : Int32), acc.toInt = sgI R P y a d c → (if p4 ≤ i2 then (r = some (.int acc) ∧ w' = w) else (if i2 < 6 then (PS X k 152 61 [.ref 55, .int i2, .int i3, .int p4, .int (aG w 66 (i2 - 1)), .int acc, .int 0] [] w r w') else (r = some (.int acc) ∧ w' = w))) → FM [] [66] w0 w' ∧ (∀ i, i < d → ((gA w' 66).getD i 0).toInt = sgE a d c i) ∧ ∃ z : Int32, r = some (.int z) ∧ z.toInt = sgC R P y a (M - d) d c := by
        intro acc hacc hh
        by_cases cM : p4 ≤ i2
        · rw [if_pos cM] at hh
          rw [Int32.le_iff_toInt_le, hp4, h2] at cM
          rw [hh.2]
          refine ⟨fm, hp, acc, hh.1, ?_⟩
          rw [show M - d = 0 by omega]
          exact hacc
        · rw [if_neg cM] at hh
          rw [Int32.le_iff_toInt_le, hp4, h2] at cM
          rw [if_pos (by rw [Int32.lt_iff_toInt_lt, h2, e6]; omega)] at hh
          obtain ⟨n, hn⟩ : ∃ n, M = d + 1 + n := ⟨M - d - 1, by omega⟩
          have q := ih61 w d c 0 n i2 i3 _ acc 0 _ _ fm h2 d1 hn hv hp hm x1 z32 (Nat.zero_le _) (by rw [hacc]; show _ = _ + 0; omega) hh
          rw [show M - d = n + 1 by omega]
          exact q
      obtain ⟨_, h⟩ := U152_0 hS h
      by_cases c2 : i2 < 2
      · rw [if_pos c2] at h
        rw [Int32.lt_iff_toInt_lt, h2, two32] at c2
        exact step 0 (by rw [z32, sgI_f (fun q => by have := q.1; omega)]) h
      · rw [if_neg c2] at h
        rw [Int32.lt_iff_toInt_lt, h2, two32] at c2
        obtain ⟨_, h⟩ := h
        rw [a1] at h
        obtain ⟨zr, hz, h⟩ := use_z hS h (fun _ _ t => room w _ _ _ _ _ _ _ fm x1 x0 (by omega) (by omega) t)
        by_cases cr : zr < gI w 55 2
        · rw [if_pos cr] at h
          rw [Int32.lt_iff_toInt_lt, hz, a8] at cr
          exact step 0 (by rw [z32, sgI_f (fun q => by have := (sgV_P.mp q).2.2; omega)]) h
        · rw [if_neg cr] at h
          rw [Int32.lt_iff_toInt_lt, hz, a8] at cr
          exact step 1 (by rw [o32, sgI_t (sgV_P.mpr ⟨by omega, hv, by omega⟩)]) h
    · have hS : SK w := fm.2.2.2
      obtain ⟨a1, a2, a4, a5, a8⟩ := hCk w fm
      have hel : ∀ i, i < d → sgE a d c i < P := hv.1.1
      have full : sgC R P y a (n + 1) d c = sgI R P y a d c + suI (fun p => sgC R P y a n (d + 1) (9 * c + p)) 9 := rfl
      have nn : ∀ p, 0 ≤ (fun p => sgC R P y a n (d + 1) (9 * c + p)) p := fun p => (sgC_b n (d + 1) (9 * c + p)).1
      have h := U152_61 hS h
      rw [a1, a2] at h
      by_cases cp : gI w v 0 ≤ i6
      · rw [if_pos cp] at h
        rw [Int32.le_iff_toInt_le, a4, h6] at cp
        have e : p = P := by omega
        rw [h.2]
        refine ⟨fm, hp, i5, h.1, ?_⟩
        rw [h5, full, e, suI_ext (m := P) (n := 9) (f := fun p => sgC R P y a n (d + 1) (9 * c + p)) hP9 (fun i h1 h2 => sgC_z n (d + 1) (9 * c + i) (by omega) (fun q => by have := ((sgP_ext d1 h2).mp q).2.1; omega))]
      · rw [if_neg cp] at h
        rw [Int32.le_iff_toInt_le, a4, h6] at cp
        have e1 : (i6 + 1).toInt = ((p + 1 : Nat) : Int) := by rw [zi_inc (n := 40) (by omega) (by omega), h6]; rfl
        have p9 : p < 9 := by omega
        have s1 : suI (fun p => sgC R P y a n (d + 1) (9 * c + p)) (p + 1) = suI (fun p => sgC R P y a n (d + 1) (9 * c + p)) p + sgC R P y a n (d + 1) (9 * c + p) := rfl
        have skip : ¬ sgP R P y a (d + 1) (9 * c + p) → PS X k 152 61 [.ref 55, .int i1, .int i2, .int p4, .int i4, .int i5, .int (i6 + 1)] [] w r w' → FM [] [66] w0 w' ∧ (∀ i, i < d → ((gA w' 66).getD i 0).toInt = sgE a d c i) ∧ ∃ z : Int32, r = some (.int z) ∧ z.toInt = sgC R P y a (n + 1) d c := by
          intro hn hh
          exact ih61 w d c (p + 1) n i1 i2 i4 i5 _ _ _ fm h1 d1 eM hv hp hm h4 e1 (by omega) (by rw [h5, s1, sgC_z n (d + 1) (9 * c + p) (by omega) hn]; omega) hh
        have h := use_p hS h (fun _ _ y => F89m hS hm h6 p9 (by decide) y)
        cases hs : snE (sgE a d c) d p with
        | true =>
          rw [hs, if_neg (by decide +kernel)] at h
          obtain ⟨i, hi, e⟩ := snE_t.mp hs
          exact skip (fun z => ((sgP_ext d1 p9).mp z).2.2.1 i hi e) h
        | false =>
          rw [hs, if_pos (by decide +kernel), a1] at h
          have hl : sgE a d c (d - 1) < P := hel (d - 1) (by omega)
          obtain ⟨zr, hz, h⟩ := use_z hS h (fun _ _ t => room w _ _ _ _ _ _ _ fm h4 h6 (by omega) p9 t)
          by_cases cr : zr < gI w 55 2
          · rw [if_pos cr] at h
            rw [Int32.lt_iff_toInt_lt, hz, a8] at cr
            exact skip (fun z => by have := ((sgP_ext d1 p9).mp z).2.2.2; omega) h
          · rw [if_neg cr] at h
            rw [Int32.lt_iff_toInt_lt, hz, a8] at cr
            obtain ⟨_, h⟩ := h
            obtain ⟨q8, w9, y9, h⟩ := h _ rfl
            have d6 : d < 6 := by omega
            have f1 : FM [] [66] w (aS w 66 i1 i6) := FM_aS hS (by decide)
            have ms := fun i => aS66 (x := i6) hS h1 d6 i
            have hv' : sgP R P y a (d + 1) (9 * c + p) := (sgP_ext d1 p9).mpr ⟨hv, by omega, fun i hi e => by
              have := snE_t.mpr ⟨i, hi, e⟩
              rw [hs] at this
              exact Bool.noConfusion this, by omega⟩
            obtain ⟨b2, b3, zc, b4, b5⟩ := ih0 (aS w 66 i1 i6) (d + 1) (9 * c + p) (i1 + 1) (i2 ||| (1 <<< (i6 &&& 31))) _ _ (FM_trans fm f1) (by rw [zi_inc (n := 40) (by omega) (by omega), h1]; rfl) (by omega) (by omega) hv' (fun i hi => by
              rw [ms i]
              by_cases e : i = d
              · rw [if_pos e, e, sgE_hi d1 p9]; exact h6
              · rw [if_neg e, sgE_lo p9 (by omega)]; exact hp i (by omega)) (MSK_cg (MSK_ob hm h6 p9 (by decide)) (fun q _ => sgE_sn d1 p9)) y9
            have h := h _ b4 b2.2.2.2
            rw [show M - (d + 1) = n by omega] at b5
            have bb := sgC_b (R := R) (P := P) (y := y) (a := a) (n + 1) d c
            have le9 := su_le (f := fun p => sgC R P y a n (d + 1) (9 * c + p)) (m := 9) (fun p _ => nn p) (p + 1) (by omega)
            have ge0 := su_le (f := fun p => sgC R P y a n (d + 1) (9 * c + p)) (m := p) (fun p _ => nn p) 0 (by omega)
            have z0 : suI (fun p => sgC R P y a n (d + 1) (9 * c + p)) 0 = 0 := rfl
            have b6 := (sgC_b (R := R) (P := P) (y := y) (a := a) n (d + 1) (9 * c + p)).1
            have b7 := sgI_b (R := R) (P := P) (y := y) (a := a) (m := d) (c := c)
            have pw : (9 : Int) ^ (n + 1) ≤ 531441 := by
              have cn : n = 0 ∨ n = 1 ∨ n = 2 ∨ n = 3 ∨ n = 4 := by omega
              rcases cn with rfl | rfl | rfl | rfl | rfl <;> decide
            rw [full] at bb
            refine ih61 w9 d c (p + 1) n i1 i2 i4 _ _ _ _ b2 h1 d1 eM hv (fun i hi => by rw [b3 i (by omega), sgE_lo p9 hi]) hm h4 e1 (by omega) ?_ h
            rw [zi_add h5 b5 (by omega) (by omega), s1]
            omega
end JUA
