section
/-! ===== consider ===== -/
section JGA
variable {X : pm_X} {k k2 : Nat} {w0 w w1 w2 w3 w4 w5 wj w' : pm_W} {r r2 q0 q1 q2 : Option Value} {p1 p2 p3 p4 p5 i1 i2 i3 i4 i5 i6 i7 i8 z z1 z2 so x : Int32} {i v j m c m' c' u P t s a b Q I J K T p W N κ bm n : Nat} {l : Int64} {e g y : Int} {f fe rk : Nat → Int} {V : Nat → Nat → Prop} {R : Nat → Nat → Int}
def cstN (fe : Nat → Int) (a b m c t : Nat) : Int := suI (fun i => if 2 ≤ i then fe (elN a b m c i) else 0) t
def prI (f : Nat → Int) : Nat → Int
  | 0 => 1
  | n + 1 => prI f n * f n
def chN (rk : Nat → Int) (a b m c t : Nat) : Int := prI (fun i => 100 - rk (elN a b m c i)) t
def GR (so : Int32) (fe rk : Nat → Int) (a b m c : Nat) : Int := GSv so (cstN fe a b m c m) (chN rk a b m c m) m
theorem cst_b (h : ∀ i, i < m → 0 ≤ fe (elN a b m c i) ∧ fe (elN a b m c i) ≤ 1000) : ∀ t, t ≤ m → 0 ≤ cstN fe a b m c t ∧ cstN fe a b m c t ≤ 1000 * t := by
  intro t
  induction t with
  | zero => intro _; exact ⟨Int.le_refl _, Int.le_refl _⟩
  | succ t ih =>
    intro ht
    have q := ih (by omega)
    have q2 := h t (by omega)
    show 0 ≤ cstN fe a b m c t + (if 2 ≤ t then fe (elN a b m c t) else 0) ∧ cstN fe a b m c t + (if 2 ≤ t then fe (elN a b m c t) else 0) ≤ 1000 * ((t + 1 : Nat) : Int)
    split <;> omega
theorem ch_b (h : ∀ i, i < m → 0 ≤ rk (elN a b m c i) ∧ rk (elN a b m c i) ≤ 100) : ∀ t, t ≤ m → 0 ≤ chN rk a b m c t ∧ chN rk a b m c t ≤ (100 : Int) ^ t := by
  intro t
  induction t with
  | zero => intro _; exact ⟨by show (0 : Int) ≤ 1; omega, Int.le_refl _⟩
  | succ t ih =>
    intro ht
    obtain ⟨q0, q1⟩ := ih (by omega)
    have q2 := h t (by omega)
    show 0 ≤ chN rk a b m c t * (100 - rk (elN a b m c t)) ∧ chN rk a b m c t * (100 - rk (elN a b m c t)) ≤ (100 : Int) ^ (t + 1)
    refine ⟨Int.mul_nonneg q0 (by omega), ?_⟩
    rw [Int.pow_succ]
    exact Int.mul_le_mul q1 (by omega) (by omega) (Int.le_of_lt (Int.pow_pos (by decide)))
theorem ch_6 (h : ∀ i, i < m → 0 ≤ rk (elN a b m c i) ∧ rk (elN a b m c i) ≤ 100) (hm : m ≤ 6) : 0 ≤ chN rk a b m c m ∧ chN rk a b m c m * (100 : Int) ^ (6 - m) ≤ 1000000000000 := by
  obtain ⟨q0, q1⟩ := ch_b h m (Nat.le_refl m)
  refine ⟨q0, ?_⟩
  have q2 := Int.mul_le_mul_of_nonneg_right q1 (Int.le_of_lt (pow100 (6 - m) (by omega)).2)
  rw [← Int.pow_add, show m + (6 - m) = 6 by omega] at q2
  exact Int.le_trans q2 (by decide)
/-- what the search looks at -/
def SRC (w : pm_W) (v P : Nat) (y : Int) (so : Int32) (fe rk : Nat → Int) : Prop := gR w 55 0 = 33 ∧ gR w 33 0 = v ∧ v < 30 ∧ (gI w v 0).toInt = P ∧ P ≤ 9 ∧ gR w v 5 = v + 3 ∧ gI w 55 1 = so ∧ (gI w 55 2).toInt = y ∧ (∀ p, p < P → ((gA w 65).getD p 0).toInt = fe p ∧ 0 ≤ fe p ∧ fe p ≤ 1000) ∧ ∀ p, p < P → ((gA w (v + 3)).getD p 0).toInt = rk p ∧ 0 ≤ rk p ∧ rk p ≤ 100
theorem SRC_fm {fs : List (Nat × Nat)} {as : List Nat} (h : SRC w v P y so fe rk) (f : FM fs as w w') (h1 : ∀ p, p ∈ fs → p.1 = 55 ∧ 6 ≤ p.2) (h2 : ∀ a, a ∈ as → 66 ≤ a) : SRC w' v P y so fe rk := by
  obtain ⟨a1, a2, a3, a4, a5, a6, a7, a8, a9, a10⟩ := h
  have n1 : ∀ q c, q ≠ 55 → (q, c) ∉ fs := fun q c hq hm => hq (h1 _ hm).1
  have n2 : ∀ c, c < 6 → (55, c) ∉ fs := fun c hc hm => by have := (h1 _ hm).2; omega
  have n3 : ∀ q, q < 66 → q ∉ as := fun q hq hm => by have := h2 _ hm; omega
  refine ⟨by rw [FM_r f (n2 0 (by decide))]; exact a1, by rw [FM_r f (n1 33 0 (by decide))]; exact a2, a3, by rw [FM_i f (n1 v 0 (by omega))]; exact a4, a5, by rw [FM_r f (n1 v 5 (by omega))]; exact a6, by rw [FM_i f (n2 1 (by decide))]; exact a7, by rw [FM_i f (n2 2 (by decide))]; exact a8, fun p hp => ?_, fun p hp => ?_⟩
  · rw [FM_a f (n3 65 (by decide))]; exact a9 p hp
  · rw [FM_a f (n3 (v + 3) (by omega))]; exact a10 p hp
/-- the best of those seen -/
def SBw (w : pm_W) (P : Nat) (so : Int32) (fe rk : Nat → Int) (a b : Nat) (V : Nat → Nat → Prop) : Prop := ((gI w 55 6).toInt = 0 ∧ ∀ m c, ¬ V m c) ∨ ∃ m c : Nat, BSt (GR so fe rk a b) V m c ∧ (2 ≤ m ∧ m ≤ 6) ∧ (gI w 55 6).toInt = m ∧ (∀ i, i < m → ((gA w 67).getD i 0).toInt = elN a b m c i ∧ elN a b m c i < P) ∧ (gI w 55 7).toInt = cstN fe a b m c m ∧ (gL w 55 8).toInt = chN rk a b m c m
theorem SBw_cg {V' : Nat → Nat → Prop} (h : ∀ m c, V m c ↔ V' m c) (hB : SBw w P so fe rk a b V) : SBw w P so fe rk a b V' := by
  rcases hB with ⟨h1, h2⟩ | ⟨m, c, h1, h2⟩
  · exact Or.inl ⟨h1, fun m c q => h2 m c ((h m c).mpr q)⟩
  · exact Or.inr ⟨m, c, BSt_cg h h1, h2⟩
theorem SBw_fm {fs : List (Nat × Nat)} {as : List Nat} (hB : SBw w P so fe rk a b V) (f : FM fs as w w') (h1 : (55, 6) ∉ fs ∧ (55, 7) ∉ fs ∧ (55, 8) ∉ fs) (h2 : 67 ∉ as) : SBw w' P so fe rk a b V := by
  unfold SBw
  rw [FM_i f h1.1, FM_i f h1.2.1, FM_l f h1.2.2, FM_a f h2]
  exact hB
theorem l66 (hS : SK w) : (gA w 66).length = 6 := SK_len hS (a := 66) (n := 6) (by decide +kernel) (by decide)
theorem l67 (hS : SK w) : (gA w 67).length = 6 := SK_len hS (a := 67) (n := 6) (by decide +kernel) (by decide)
/-- the best is what stands on the path -/
theorem setB (hS : SK w) (hm : 2 ≤ m ∧ m ≤ 6) (hel : ∀ i, i < m → elN a b m c i < P) (hp : ∀ i, i < m → ((gA w 66).getD i 0).toInt = elN a b m c i) (h1 : i1.toInt = m) (h2 : i2.toInt = cstN fe a b m c m) (h3 : l.toInt = chN rk a b m c m) (hV : BSt (GR so fe rk a b) V m c) (hc : cpI (sL (sI (sI w 55 6 i1) 55 7 i2) 55 8 l) 66 67 0 0 i1) : FM [(55, 6), (55, 7), (55, 8)] [67] w (cpS (sL (sI (sI w 55 6 i1) 55 7 i2) 55 8 l) 66 67 0 0 i1) ∧ SBw (cpS (sL (sI (sI w 55 6 i1) 55 7 i2) 55 8 l) 66 67 0 0 i1) P so fe rk a b V := by
  have f1 : FM [(55, 6), (55, 7), (55, 8)] [67] w (sI w 55 6 i1) := FM_sI hS (by decide)
  have S1 := f1.2.2.2
  have f2 : FM [(55, 6), (55, 7), (55, 8)] [67] (sI w 55 6 i1) (sI (sI w 55 6 i1) 55 7 i2) := FM_sI S1 (by decide)
  have S2 := f2.2.2.2
  have f3 : FM [(55, 6), (55, 7), (55, 8)] [67] (sI (sI w 55 6 i1) 55 7 i2) (sL (sI (sI w 55 6 i1) 55 7 i2) 55 8 l) := FM_sL S2 (by decide)
  have S3 := f3.2.2.2
  have fc : FM [] [67] (sL (sI (sI w 55 6 i1) 55 7 i2) 55 8 l) (cpS (sL (sI (sI w 55 6 i1) 55 7 i2) 55 8 l) 66 67 0 0 i1) := FM_cpS hc S3 (by decide)
  have f13 := FM_trans f1 (FM_trans f2 f3)
  refine ⟨FM_trans f13 (FM_mono fc (by intro p hp; cases hp) (by decide)), Or.inr ⟨m, c, hV, hm, ?_, fun i hi => ⟨?_, hel i hi⟩, ?_, ?_⟩⟩
  · rw [FM_i fc (by simp), gI_sL_ne (by decide), gI_sI_ne (by decide), gI_sI (SK_isF hS (by decide +kernel))]
    exact h1
  · rw [cpS_A hc (SK_isA S3 (by decide +kernel)), cpy_getF (by rw [z32, h1, l66 S3]; omega) (by rw [z32, h1, l67 S3]; omega), z32, h1, if_pos (by omega), FM_a f13 (by decide)]
    show ((gA w 66).getD (0 + (i - 0)) 0).toInt = _
    rw [show 0 + (i - 0) = i by omega]
    exact hp i hi
  · rw [FM_i fc (by simp), gI_sL_ne (by decide), gI_sI (SK_isF S1 (by decide +kernel))]
    exact h2
  · rw [FM_l fc (by simp), gL_sL (SK_isL S2 (by decide +kernel))]
    exact h3
theorem F136 (hS : SK w) (hC : SRC w v P y so fe rk) (hm : 2 ≤ m ∧ m ≤ 6) (hel : ∀ i, i < m → elN a b m c i < P) (hp : ∀ i, i < m → ((gA w 66).getD i 0).toInt = elN a b m c i) (h1 : p1.toInt = m) (hB : SBw w P so fe rk a b V) (hlt : ∀ c', V m c' → c' < c) (h : PS X k 136 0 [.ref 55, .int p1, pm_dead, pm_dead, pm_dead, pm_dead] [] w r w') : r = none ∧ FM [(55, 6), (55, 7), (55, 8)] [67] w w' ∧ SBw w' P so fe rk a b (fun m1 c1 => V m1 c1 ∨ (m1 = m ∧ c1 = c)) := by
  obtain ⟨a1, a2, a3, a4, a5, a6, a7, a8, a9, a10⟩ := id hC
  have e100 : (100 : Int32).toInt = 100 := by decide +kernel
  have feb : ∀ i, i < m → 0 ≤ fe (elN a b m c i) ∧ fe (elN a b m c i) ≤ 1000 := fun i hi => (a9 _ (hel i hi)).2
  have rkb : ∀ i, i < m → 0 ≤ rk (elN a b m c i) ∧ rk (elN a b m c i) ≤ 100 := fun i hi => (a10 _ (hel i hi)).2
  have lp : ∀ (k t : Nat) (i2 : Int32) (l3 : Int64) (i5 : Int32), i5.toInt = t → t ≤ m → i2.toInt = cstN fe a b m c t → l3.toInt = chN rk a b m c t → PS X k 136 7 [.ref 55, .int p1, .int i2, .long l3, pm_dead, .int i5] [] w r w' → r = none ∧ FM [(55, 6), (55, 7), (55, 8)] [67] w w' ∧ SBw w' P so fe rk a b (fun m1 c1 => V m1 c1 ∨ (m1 = m ∧ c1 = c)) := by
    intro k
    induction k with
    | zero => intro t i2 l3 i5 _ _ _ _ h; exact (PS_0 h).elim
    | succ k ih =>
      intro t i2 l3 i5 h5 ht h2 h3 h
      have h := U136_7 hS h
      by_cases c1 : p1 ≤ i5
      · rw [if_pos c1] at h
        rw [Int32.le_iff_toInt_le, h1, h5] at c1
        have et : t = m := by omega
        rw [et] at h2 h3
        by_cases c2 : gI w 55 6 = 0
        · rw [if_pos c2] at h
          obtain ⟨hc, h⟩ := h _ rfl _ rfl _ rfl
          have h := h _ rfl
          have hn : ∀ m c, ¬ V m c := by
            rcases hB with ⟨_, q⟩ | ⟨m', c', _, q2, q3, _⟩
            · exact q
            · rw [c2, z32] at q3; omega
          obtain ⟨g1, g2⟩ := setB (so := so) (fe := fe) (rk := rk) hS hm hel hp h1 h2 h3 (BSt_1 hn) hc
          rw [h.2]
          exact ⟨h.1, g1, g2⟩
        · rw [if_neg c2] at h
          obtain ⟨q5, w6, y5, h⟩ := h
          rcases hB with ⟨q, _⟩ | ⟨bm, bc, b1, b2, b3, b4, b5, b6⟩
          · exact absurd (Int32.toInt_inj.mp (by rw [q, z32])) c2
          · have rkb' : ∀ i, i < bm → 0 ≤ rk (elN a b bm bc i) ∧ rk (elN a b bm bc i) ≤ 100 := fun i hi => (a10 _ (b4 i hi).2).2
            obtain ⟨d1, bb, d2, d3⟩ := F137 hS h1 hm h2 h3 a7 b3 b2 b5 b6 (ch_6 rkb hm.2) (ch_6 rkb' b2.2) y5
            have h := h _ d2 (by rw [d1]; exact hS)
            rw [d1] at h
            cases bb with
            | false =>
              rw [if_pos (by decide +kernel)] at h
              rw [h.2]
              refine ⟨h.1, FM_refl hS, Or.inr ⟨bm, bc, BSt_o b1 ?_, b2, b3, b4, b5, b6⟩⟩
              have nb : ¬ (GR so fe rk a b bm bc < GR so fe rk a b m c ∨ (GR so fe rk a b m c = GR so fe rk a b bm bc ∧ m < bm)) := fun q => Bool.noConfusion (d3.mpr q)
              have hl : bm = m → bc < c := fun e => hlt bc (by rw [← e]; exact b1.1)
              unfold BTt
              by_cases e : bm = m
              · have := hl e; omega
              · omega
            | true =>
              rw [if_neg (by decide +kernel)] at h
              obtain ⟨hc, h⟩ := h _ rfl _ rfl _ rfl
              have h := h _ rfl
              have yb : GR so fe rk a b bm bc < GR so fe rk a b m c ∨ (GR so fe rk a b m c = GR so fe rk a b bm bc ∧ m < bm) := d3.mp rfl
              obtain ⟨g1, g2⟩ := setB (so := so) (fe := fe) (rk := rk) hS hm hel hp h1 h2 h3 (BSt_n b1 (by unfold BTt; omega)) hc
              rw [h.2]
              exact ⟨h.1, g1, g2⟩
      · rw [if_neg c1] at h
        rw [Int32.le_iff_toInt_le, h1, h5] at c1
        have htm : t < m := by omega
        have e1 : (i5 + 1).toInt = ((t + 1 : Nat) : Int) := by rw [zi_inc (n := 40) (by omega) (by omega), h5]; rfl
        have v1 : (aG w 66 i5).toInt = elN a b m c t := by rw [aG_n h5]; exact hp t htm
        have v2 : (aG w 65 (aG w 66 i5)).toInt = fe (elN a b m c t) := by rw [aG_n v1]; exact (a9 _ (hel t htm)).1
        have v3 : (aG w (v + 3) (aG w 66 i5)).toInt = rk (elN a b m c t) := by rw [aG_n v1]; exact (a10 _ (hel t htm)).1
        have cb := cst_b feb t (by omega)
        have fb := feb t htm
        have rb := rkb t htm
        have v4 : ((100 - aG w (v + 3) (aG w 66 i5)).toInt64).toInt = 100 - rk (elN a b m c t) := by rw [Int32.toInt_toInt64, zi_sub e100 v3 (by omega) (by omega)]
        have hb := ch_b rkb (t + 1) (by omega)
        have v5 : (l3 * (100 - aG w (v + 3) (aG w 66 i5)).toInt64).toInt = chN rk a b m c (t + 1) := lg_mul h3 v4 hb.1 (Int.le_trans hb.2 (pow100 _ (by omega)).1)
        have s1 : cstN fe a b m c (t + 1) = cstN fe a b m c t + (if 2 ≤ t then fe (elN a b m c t) else 0) := rfl
        by_cases c2 : 2 ≤ i5
        · rw [if_pos c2, a1, a2, a6] at h
          rw [Int32.le_iff_toInt_le, two32, h5] at c2
          obtain ⟨_, _, _, _, h⟩ := h
          exact ih (t + 1) _ _ _ e1 (by omega) (by rw [zi_add h2 v2 (by omega) (by omega), s1, if_pos (by omega)]) v5 h
        · rw [if_neg c2, a1, a2, a6] at h
          rw [Int32.le_iff_toInt_le, two32, h5] at c2
          obtain ⟨_, _, h⟩ := h
          exact ih (t + 1) _ _ _ e1 (by omega) (by rw [zi_add h2 z32 (by omega) (by omega), s1, if_neg (by omega)]) v5 h
  cases k with
  | zero => exact (PS_0 h).elim
  | succ k => exact lp k 0 0 1 0 z32 (Nat.zero_le _) z32 l1_64 (U136_0 hS h)
end JGA
end
section
/-! ===== extend: all rings that begin so are seen ===== -/
section JHA
variable {X : pm_X} {k k2 : Nat} {w0 w w1 w2 w3 w4 w5 wj w' : pm_W} {r r2 q0 q1 q2 : Option Value} {p1 p2 p3 p4 p5 i1 i2 i3 i4 i5 i6 i7 i8 z z1 z2 so x : Int32} {i v j m c m' c' u P t s a b d p q Q I J K T W N κ bm n : Nat} {l : Int64} {e g y : Int} {f fe rk : Nat → Int} {V : Nat → Nat → Prop} {R : Nat → Nat → Int}
def snN (a b d c q : Nat) : Bool := (List.range d).any (fun i => Nat.beq (elN a b d c i) q)
theorem snN_t : snN a b d c q = true ↔ ∃ i, i < d ∧ elN a b d c i = q := by
  unfold snN
  rw [List.any_eq_true]
  constructor
  · rintro ⟨i, hi, e⟩
    exact ⟨i, List.mem_range.mp hi, Nat.eq_of_beq_eq_true e⟩
  · rintro ⟨i, hi, e⟩
    exact ⟨i, List.mem_range.mpr hi, by rw [e]; exact Nat.beq_refl q⟩
theorem snN_s (hd : 2 ≤ d) (hp : p < 9) : snN a b (d + 1) (9 * c + p) q = (snN a b d c q || decide (q = p)) := by
  apply Bool.eq_iff_iff.mpr
  rw [Bool.or_eq_true, snN_t, snN_t, decide_eq_true_iff]
  constructor
  · rintro ⟨i, hi, e⟩
    by_cases h : i = d
    · rw [h, elN_hi hd hp] at e; exact Or.inr e.symm
    · rw [elN_lo hd hp (by omega)] at e; exact Or.inl ⟨i, by omega, e⟩
  · rintro (⟨i, hi, e⟩ | e)
    · exact ⟨i, by omega, by rw [elN_lo hd hp hi]; exact e⟩
    · exact ⟨d, by omega, by rw [elN_hi hd hp]; exact e.symm⟩
theorem aS66 (hS : SK w) (hx : i1.toInt = d) (hd : d < 6) (i : Nat) : (gA (aS w 66 i1 x) 66).getD i 0 = if i = d then x else (gA w 66).getD i 0 := by
  rw [gA_aS (SK_isA hS (by decide +kernel)), i_nat hx, getD_set (by rw [l66 hS]; exact hd)]
abbrev srF : List (Nat × Nat) := [(55, 6), (55, 7), (55, 8)]
abbrev srA : List Nat := [66, 67]
theorem F135_l (hS0 : SK w0) (hC : SRC w0 v P y so fe rk) (okv : okV v = true) (hR : ∀ i j, R i j = (rmI (vcl w0 v) (dA w0 33) i j).toInt) : ∀ k : Nat,
    (∀ (w : pm_W) (d c : Nat) (V : Nat → Nat → Prop) (i2 i3 : Int32) (r : Option Value) (w' : pm_W), FM srF srA w0 w → i2.toInt = d → 2 ≤ d → d ≤ 6 → c < 9 ^ (d - 2) → VPr R P y a b d c → (∀ i, i < d → ((gA w 66).getD i 0).toInt = elN a b d c i) → MSK i3 9 (snN a b d c) → SBw w P so fe rk a b V → (∀ m' c', V m' c' → d ≤ m' → c' / 9 ^ (m' - d) < c) → PS X k 135 0 [.ref 55, .int i2, .int i3, pm_dead, pm_dead] [] w r w' → r = none ∧ FM srF srA w0 w' ∧ (∀ i, i < d → ((gA w' 66).getD i 0).toInt = elN a b d c i) ∧ SBw w' P so fe rk a b (fun m x => V m x ∨ EXr R P y a b d c m x)) ∧
    (∀ (w : pm_W) (d c p : Nat) (V : Nat → Nat → Prop) (i1 i2 i3 i4 : Int32) (r : Option Value) (w' : pm_W), FM srF srA w0 w → i1.toInt = d → 2 ≤ d → d < 6 → c < 9 ^ (d - 2) → VPr R P y a b d c → (∀ i, i < d → ((gA w 66).getD i 0).toInt = elN a b d c i) → MSK i2 9 (snN a b d c) → i3.toInt = elN a b d c (d - 1) → i4.toInt = p → p ≤ P → SBw w P so fe rk a b (fun m x => V m x ∨ (m = d ∧ x = c ∧ VRg R P y a b d c) ∨ ∃ p', p' < p ∧ EXr R P y a b (d + 1) (9 * c + p') m x) → (∀ m' c', V m' c' → d ≤ m' → c' / 9 ^ (m' - d) < c) → PS X k 135 45 [.ref 55, .int i1, .int i2, .int i3, .int i4] [] w r w' → r = none ∧ FM srF srA w0 w' ∧ (∀ i, i < d → ((gA w' 66).getD i 0).toInt = elN a b d c i) ∧ SBw w' P so fe rk a b (fun m x => V m x ∨ EXr R P y a b d c m x)) := by
  have e6 : (6 : Int32).toInt = 6 := by decide +kernel
  obtain ⟨_, _, c3, _, hP9, _⟩ := id hC
  have hCk : ∀ w, FM srF srA w0 w → SRC w v P y so fe rk := fun w f => SRC_fm hC f (by decide) (by decide)
  have room : ∀ (w : pm_W) (k : Nat) (p1 p2 : Int32) (i j : Nat) (r : Option Value) (w' : pm_W), FM srF srA w0 w → p1.toInt = i → p2.toInt = j → i < 9 → j < 9 → PS X k 77 0 [.ref 33, .int p1, .int p2] [] w r w' → (∃ z : Int32, z.toInt = R i j ∧ r = some (.int z) ∧ w' = w) := by
    intro w k p1 p2 i j r w' f h1 h2 hi hj h
    have hS : SK w := f.2.2.2
    obtain ⟨a1, a2⟩ := F77n hS (by decide +kernel) okv (hCk w f).2.1 h1 h2 hi hj h
    refine ⟨_, ?_, a1, a2⟩
    rw [hR, show dA w 33 = dA w0 33 from by funext q; unfold dA; rw [FM_a f (by decide)], show vcl w v = vcl w0 v from by
      funext q
      exact vcl_FMv hS0 f okv (by simp <;> omega) (by simp <;> omega) (by simp <;> omega) (by simp <;> omega) (by simp <;> omega) (by simp <;> omega) (by simp <;> omega) q]
  intro k
  induction k with
  | zero => exact ⟨fun _ _ _ _ _ _ _ _ _ _ _ _ _ _ _ _ _ _ h => (PS_0 h).elim, fun _ _ _ _ _ _ _ _ _ _ _ _ _ _ _ _ _ _ _ _ _ _ _ _ h => (PS_0 h).elim⟩
  | succ k ih =>
    obtain ⟨ih0, ih45⟩ := ih
    refine ⟨fun w d c V i2 i3 r w' fm h2 d2 d6 hc hv hp hm hB hV h => ?_, fun w d c p V i1 i2 i3 i4 r w' fm h1 d2 d6 hc hv hp hm h3 h4 hpP hB hV h => ?_⟩
    · have hS : SK w := fm.2.2.2
      obtain ⟨a1, a2, a3, a4, a5, a6, a7, a8, a9, a10⟩ := hCk w fm
      have hel : ∀ i, i < d → elN a b d c i < P := hv.1
      obtain ⟨_, _, h⟩ := U135_0 hS h
      have x1 : (aG w 66 (i2 - 1)).toInt = elN a b d c (d - 1) := by
        rw [aG_n (m := d - 1) (by rw [zi_sub h2 o32 (by omega) (by omega)]; omega)]
        exact hp (d - 1) (by omega)
      have x0 : (aG w 66 0).toInt = a := by rw [aG_n (m := 0) z32]; exact hp 0 (by omega)
      have ha : a < P := hel 0 (by omega)
      have hl : elN a b d c (d - 1) < P := hel (d - 1) (by omega)
      rw [a1] at h
      obtain ⟨zr, hz, h⟩ := use_z hS h (fun _ _ t => room w _ _ _ _ _ _ _ fm x1 x0 (by omega) (by omega) t)
      have step : ∀ (wj : pm_W), FM srF srA w0 wj → (∀ i, i < d → ((gA wj 66).getD i 0).toInt = elN a b d c i) → SBw wj P so fe rk a b (fun m x => V m x ∨ (m = d ∧ x = c ∧ VRg R P y a b d c)) → (if i2 < 6 then (PS X k 135 45 [.ref 55, .int i2, .int i3, .int (aG w 66 (i2 - 1)), .int 0] [] wj r w') else (r = none ∧ w' = wj)) → r = none ∧ FM srF srA w0 w' ∧ (∀ i, i < d → ((gA w' 66).getD i 0).toInt = elN a b d c i) ∧ SBw w' P so fe rk a b (fun m x => V m x ∨ EXr R P y a b d c m x) := by
        intro wj fj hpj hBj hh
        by_cases c6 : i2 < 6
        · rw [if_pos c6] at hh
          rw [Int32.lt_iff_toInt_lt, h2, e6] at c6
          refine ih45 wj d c 0 V i2 i3 _ 0 _ _ fj h2 d2 (by omega) hc hv hpj hm x1 z32 (Nat.zero_le _) (SBw_cg (fun m x => ?_) hBj) hV hh
          constructor
          · rintro (q | q)
            · exact Or.inl q
            · exact Or.inr (Or.inl q)
          · rintro (q | q | ⟨p', q, _⟩)
            · exact Or.inl q
            · exact Or.inr q
            · exact absurd q (Nat.not_lt_zero _)
        · rw [if_neg c6] at hh
          rw [Int32.lt_iff_toInt_lt, h2, e6] at c6
          rw [hh.2]
          refine ⟨hh.1, fj, hpj, SBw_cg (fun m x => ?_) hBj⟩
          rw [EXr_self d2]
          constructor
          · rintro (q | q)
            · exact Or.inl q
            · exact Or.inr (Or.inl q)
          · rintro (q | q | ⟨p', _, q⟩)
            · exact Or.inl q
            · exact Or.inr q
            · exact absurd q (EXr_6 (by omega))
      by_cases cr : zr < gI w 55 2
      · rw [if_pos cr] at h
        rw [Int32.lt_iff_toInt_lt, hz, a8] at cr
        refine step w fm hp (SBw_cg (fun m x => ⟨Or.inl, fun q => ?_⟩) hB) h
        rcases q with q | ⟨_, _, q⟩
        · exact q
        · have := q.2.2.2.2
          omega
      · rw [if_neg cr] at h
        rw [Int32.lt_iff_toInt_lt, hz, a8] at cr
        obtain ⟨q4, w5, y5, h⟩ := h
        obtain ⟨b1, f5, b2⟩ := F136 hS (hCk w fm) ⟨d2, d6⟩ hel hp h2 hB (fun c' hq => by
          have := hV d c' hq (Nat.le_refl d)
          rw [Nat.sub_self, Nat.pow_zero, Nat.div_one] at this
          exact this) y5
        have h := h b1 f5.2.2.2
        refine step w5 (FM_trans fm (FM_mono f5 (fun _ h => h) (by decide))) (fun i hi => by rw [FM_a f5 (by decide)]; exact hp i hi) (SBw_cg (fun m x => ?_) b2) h
        have vr : VRg R P y a b d c := ⟨d2, d6, hc, hv, by omega⟩
        constructor
        · rintro (q | ⟨q1, q2⟩)
          · exact Or.inl q
          · exact Or.inr ⟨q1, q2, vr⟩
        · rintro (q | ⟨q1, q2, _⟩)
          · exact Or.inl q
          · exact Or.inr ⟨q1, q2⟩
    · have hS : SK w := fm.2.2.2
      obtain ⟨a1, a2, a3, a4, a5, a6, a7, a8, a9, a10⟩ := hCk w fm
      have hel : ∀ i, i < d → elN a b d c i < P := hv.1
      have h := U135_45 hS h
      rw [a1, a2] at h
      by_cases cp : gI w v 0 ≤ i4
      · rw [if_pos cp] at h
        rw [Int32.le_iff_toInt_le, a4, h4] at cp
        have e : p = P := by omega
        rw [h.2]
        refine ⟨h.1, fm, hp, SBw_cg (fun m x => ?_) hB⟩
        rw [EXr_self d2]
        constructor
        · rintro (q | q | ⟨p', q1, q2⟩)
          · exact Or.inl q
          · exact Or.inr (Or.inl q)
          · exact Or.inr (Or.inr ⟨p', by omega, q2⟩)
        · rintro (q | q | ⟨p', q1, q2⟩)
          · exact Or.inl q
          · exact Or.inr (Or.inl q)
          · refine Or.inr (Or.inr ⟨p', ?_, q2⟩)
            by_cases cq : p' < p
            · exact cq
            · exact absurd q2 (EXr_no (by omega) (fun z => by have := ((VPr_ext d2 q1).mp z).2.1; omega))
      · rw [if_neg cp] at h
        rw [Int32.le_iff_toInt_le, a4, h4] at cp
        have e1 : (i4 + 1).toInt = ((p + 1 : Nat) : Int) := by rw [zi_inc (n := 40) (by omega) (by omega), h4]; rfl
        have p9 : p < 9 := by omega
        have skip : ¬ VPr R P y a b (d + 1) (9 * c + p) → PS X k 135 45 [.ref 55, .int i1, .int i2, .int i3, .int (i4 + 1)] [] w r w' → r = none ∧ FM srF srA w0 w' ∧ (∀ i, i < d → ((gA w' 66).getD i 0).toInt = elN a b d c i) ∧ SBw w' P so fe rk a b (fun m x => V m x ∨ EXr R P y a b d c m x) := by
          intro hn hh
          refine ih45 w d c (p + 1) V i1 i2 i3 _ _ _ fm h1 d2 d6 hc hv hp hm h3 e1 (by omega) (SBw_cg (fun m x => ?_) hB) hV hh
          constructor
          · rintro (q | q | ⟨p', q1, q2⟩)
            · exact Or.inl q
            · exact Or.inr (Or.inl q)
            · exact Or.inr (Or.inr ⟨p', by omega, q2⟩)
          · rintro (q | q | ⟨p', q1, q2⟩)
            · exact Or.inl q
            · exact Or.inr (Or.inl q)
            · by_cases cq : p' = p
              · rw [cq] at q2
                exact absurd q2 (EXr_no (by omega) hn)
              · exact Or.inr (Or.inr ⟨p', by omega, q2⟩)
        have h := use_p hS h (fun _ _ y => F89m hS hm h4 p9 (by decide) y)
        cases hs : snN a b d c p with
        | true =>
          rw [hs, if_neg (by decide +kernel)] at h
          obtain ⟨i, hi, e⟩ := snN_t.mp hs
          exact skip (fun z => ((VPr_ext d2 p9).mp z).2.2.1 i hi e) h
        | false =>
          rw [hs, if_pos (by decide +kernel), a1] at h
          have hl : elN a b d c (d - 1) < P := hel (d - 1) (by omega)
          obtain ⟨zr, hz, h⟩ := use_z hS h (fun _ _ t => room w _ _ _ _ _ _ _ fm h3 h4 (by omega) p9 t)
          by_cases cr : zr < gI w 55 2
          · rw [if_pos cr] at h
            rw [Int32.lt_iff_toInt_lt, hz, a8] at cr
            exact skip (fun z => by have := ((VPr_ext d2 p9).mp z).2.2.2; omega) h
          · rw [if_neg cr] at h
            rw [Int32.lt_iff_toInt_lt, hz, a8] at cr
            obtain ⟨_, h⟩ := h
            obtain ⟨q8, w9, y9, h⟩ := h _ rfl
            have f1 : FM srF srA w (aS w 66 i1 i4) := FM_aS hS (by decide)
            have ms := fun i => aS66 (x := i4) hS h1 d6 i
            have hv' : VPr R P y a b (d + 1) (9 * c + p) := (VPr_ext d2 p9).mpr ⟨hv, by omega, fun i hi e => by
              have := snN_t.mpr ⟨i, hi, e⟩
              rw [hs] at this
              exact Bool.noConfusion this, by omega⟩
            have hc' : 9 * c + p < 9 ^ (d + 1 - 2) := by
              rw [show d + 1 - 2 = (d - 2).succ by omega, Nat.pow_succ]
              omega
            obtain ⟨b1, b2, b3, b4⟩ := ih0 (aS w 66 i1 i4) (d + 1) (9 * c + p) (fun m x => V m x ∨ (m = d ∧ x = c ∧ VRg R P y a b d c) ∨ ∃ p', p' < p ∧ EXr R P y a b (d + 1) (9 * c + p') m x) (i1 + 1) (i2 ||| (1 <<< (i4 &&& 31))) _ _ (FM_trans fm f1) (by rw [zi_inc (n := 40) (by omega) (by omega), h1]; rfl) (by omega) (by omega) hc' hv' (fun i hi => by
              rw [ms i]
              by_cases e : i = d
              · rw [if_pos e, e, elN_hi d2 p9]; exact h4
              · rw [if_neg e, elN_lo d2 p9 (by omega)]; exact hp i (by omega)) (MSK_cg (MSK_ob hm h4 p9 (by decide)) (fun q _ => snN_s d2 p9)) (SBw_fm hB (FM_aS hS (by decide) : FM [] [66] w (aS w 66 i1 i4)) (by simp) (by decide)) (fun m' c' hq hd => by
              rcases hq with q | ⟨q, _⟩ | ⟨p', q1, q2⟩
              · have z := hV m' c' q (by omega)
                rw [show m' - d = (m' - (d + 1)).succ by omega, Nat.pow_succ, ← Nat.div_div_eq_div_mul] at z
                omega
              · omega
              · rw [q2.2.2]; omega) y9
            have h := h b1 b2.2.2.2
            refine ih45 w9 d c (p + 1) V i1 i2 i3 _ _ _ b2 h1 d2 d6 hc hv (fun i hi => by rw [b3 i (by omega), elN_lo d2 p9 hi]) hm h3 e1 (by omega) (SBw_cg (fun m x => ?_) b4) hV h
            constructor
            · rintro ((q | q | ⟨p', q1, q2⟩) | q)
              · exact Or.inl q
              · exact Or.inr (Or.inl q)
              · exact Or.inr (Or.inr ⟨p', by omega, q2⟩)
              · exact Or.inr (Or.inr ⟨p, by omega, q⟩)
            · rintro (q | q | ⟨p', q1, q2⟩)
              · exact Or.inl (Or.inl q)
              · exact Or.inl (Or.inr (Or.inl q))
              · by_cases cq : p' = p
                · rw [cq] at q2; exact Or.inr q2
                · exact Or.inl (Or.inr (Or.inr ⟨p', by omega, q2⟩))
end JHA
end
section
/-! ===== lookByFees, lookFor ===== -/
section JIA
variable {X : pm_X} {k k2 : Nat} {w0 w w1 w2 w3 w4 w5 wj w' : pm_W} {r r2 q0 q1 q2 : Option Value} {p1 p2 p3 p4 p5 i1 i2 i3 i4 i5 i6 i7 i8 z z1 z2 so x : Int32} {i v j m c m' c' u P t s a b d p q Q I J K T W N κ bm n : Nat} {l : Int64} {e g y : Int} {f fe rk : Nat → Int} {V : Nat → Nat → Prop} {R : Nat → Nat → Int}
theorem snN_2 (q : Nat) : snN a b 2 0 q = (decide (q = a) || decide (q = b)) := by
  apply Bool.eq_iff_iff.mpr
  rw [Bool.or_eq_true, snN_t, decide_eq_true_iff, decide_eq_true_iff]
  constructor
  · rintro ⟨i, hi, e⟩
    have c : i = 0 ∨ i = 1 := by omega
    rcases c with rfl | rfl
    · exact Or.inl e.symm
    · exact Or.inr e.symm
  · rintro (e | e)
    · exact ⟨0, by omega, e.symm⟩
    · exact ⟨1, by omega, e.symm⟩
theorem VPr_2 : VPr R P y a b 2 0 ↔ a < P ∧ b < P ∧ a ≠ b ∧ y ≤ R a b := by
  constructor
  · rintro ⟨h1, h2, h3⟩
    exact ⟨h1 0 (by decide), h1 1 (by decide), h2 0 1 (by decide) (by decide), h3 0 (by decide)⟩
  · rintro ⟨h1, h2, h3, h4⟩
    refine ⟨fun i hi => ?_, fun i j hij hj => ?_, fun i hi => ?_⟩
    · have c : i = 0 ∨ i = 1 := by omega
      rcases c with rfl | rfl
      · exact h1
      · exact h2
    · have c : i = 0 ∧ j = 1 := by omega
      rw [c.1, c.2]; exact h3
    · have c : i = 0 := by omega
      rw [c]; exact h4
theorem VRg_2 (h : VRg R P y a b m c) : VPr R P y a b 2 0 := by
  have q := VPr_pre (d := 2) (Nat.le_refl 2) h.1 h.2.2.2.1
  rw [Nat.div_eq_of_lt h.2.2.1] at q
  exact q
theorem EXr_2 : EXr R P y a b 2 0 m c ↔ VRg R P y a b m c := ⟨fun h => h.1, fun h => ⟨h, h.1, Nat.div_eq_of_lt h.2.2.1⟩⟩
abbrev slF : List (Nat × Nat) := [(55, 0), (55, 1), (55, 2), (55, 6), (55, 7), (55, 8)]
theorem F134 (hS : SK w) (h0 : gR w 33 0 = v) (v30 : v < 30) (okv : okV v = true) (hP : (gI w v 0).toInt = P) (hP9 : P ≤ 9) (h5 : gR w v 5 = v + 3) (h6 : gR w v 6 = v + 4) (hfe : ∀ p, p < P → ((gA w 65).getD p 0).toInt = fe p ∧ 0 ≤ fe p ∧ fe p ≤ 1000) (hrk : ∀ p, p < P → ((gA w (v + 3)).getD p 0).toInt = rk p ∧ 0 ≤ rk p ∧ rk p ≤ 100) (hκ : p2.toInt = κ) (hκ7 : κ < 7) (hA : ((gA w (v + 4)).getD (4 * κ + 0) 0).toInt = a) (hB : ((gA w (v + 4)).getD (4 * κ + 1) 0).toInt = b) (hN : ((gA w (v + 4)).getD (4 * κ + 2) 0).toInt = y) (ha : a < P) (hb : b < P) (hab : a ≠ b) (h : PS X k 134 0 [.ref 55, .ref 33, .int p2, .int p3] [] w r w') : FM slF [66, 67] w w' ∧ SRC w' v P y p3 fe rk ∧ SBw w' P p3 fe rk a b (VRg (fun i j => (rmI (vcl w v) (dA w 33) i j).toInt) P y a b) ∧ (((gI w' 55 6).toInt = 0 ∧ r = some (.int 0)) ∨ (0 < (gI w' 55 6).toInt ∧ r = some (.int 1))) := by
  have four : (4 : Int32).toInt = 4 := by decide +kernel
  cases k with
  | zero => exact (PS_0 h).elim
  | succ k =>
    have h := U134_0 hS h _ rfl _ rfl
    have f1 : FM slF [66, 67] w (sR w 55 0 33) := FM_sR hS (by decide +kernel) (by decide)
    have S1 := f1.2.2.2
    have f2' : FM slF [66, 67] (sR w 55 0 33) (sI (sR w 55 0 33) 55 1 p3) := FM_sI S1 (by decide)
    have f2 := FM_trans f1 f2'
    have g0 : gR (sI (sR w 55 0 33) 55 1 p3) 55 0 = 33 := by rw [gR_sI, gR_sR hS (by decide +kernel)]
    have g1 : gI (sI (sR w 55 0 33) 55 1 p3) 55 1 = p3 := gI_sI (SK_isF S1 (by decide +kernel))
    obtain ⟨wa, hwa⟩ : ∃ wa, wa = sI (sR w 55 0 33) 55 1 p3 := ⟨_, rfl⟩
    rw [← hwa] at h f2 g0 g1
    have S2 := f2.2.2.2
    have cell : ∀ (wx : pm_W) (c : Nat) (pc : Int32) (r1 : Option Value) (w2 : pm_W) (k : Nat), FM slF [66, 67] w wx → pc.toInt = c → c < 4 → PS X k 65 0 [.ref v, .int p2, .int pc] [] wx r1 w2 → r1 = some (.int ((gA w (v + 4)).getD (4 * κ + c) 0)) ∧ w2 = wx := by
      intro wx c pc r1 w2 k fx hc hc4 hh
      obtain ⟨d1, d2⟩ := F65 fx.2.2.2 (show gR wx v 6 = v + 4 by rw [FM_r fx (by simp <;> omega)]; exact h6) hh
      refine ⟨?_, d2⟩
      rw [d1, aG_n (m := 4 * κ + c) (by rw [zi_add (zi_mul hκ four (by omega) (by omega)) hc (by omega) (by omega)]; omega), FM_a fx (by simp <;> omega)]
    rw [FM_r f2 (by simp), h0] at h
    have h := use_p S2 h (fun _ _ y => cell wa 2 2 _ _ _ f2 two32 (by decide) y)
    have h := h _ rfl
    obtain ⟨xn, hxn⟩ : ∃ xn, xn = (gA w (v + 4)).getD (4 * κ + 2) 0 := ⟨_, rfl⟩
    obtain ⟨xa, hxa⟩ : ∃ xa, xa = (gA w (v + 4)).getD (4 * κ + 0) 0 := ⟨_, rfl⟩
    obtain ⟨xb, hxb⟩ : ∃ xb, xb = (gA w (v + 4)).getD (4 * κ + 1) 0 := ⟨_, rfl⟩
    rw [← hxn] at h hN
    have f3' : FM slF [66, 67] wa (sI wa 55 2 xn) := FM_sI S2 (by decide)
    have g2 : gI (sI wa 55 2 xn) 55 2 = xn := gI_sI (SK_isF S2 (by decide +kernel))
    have g0b : gR (sI wa 55 2 xn) 55 0 = 33 := by rw [gR_sI]; exact g0
    have g1b : gI (sI wa 55 2 xn) 55 1 = p3 := by rw [gI_sI_ne (by decide)]; exact g1
    have f3 := FM_trans f2 f3'
    obtain ⟨wb, hwb⟩ : ∃ wb, wb = sI wa 55 2 xn := ⟨_, rfl⟩
    rw [← hwb] at h f3 g2 g0b g1b
    have S3 := f3.2.2.2
    rw [FM_r f3 (by simp), h0] at h
    have h := use_p S3 h (fun _ _ y => cell wb 0 0 _ _ _ f3 z32 (by decide) y)
    obtain ⟨_, h⟩ := h
    have h := h _ rfl
    rw [← hxa] at h hA
    have f4' : FM [] [66] wb (aS wb 66 0 xa) := FM_aS S3 (by decide)
    have m4 := fun i => aS66 (x := xa) S3 (d := 0) z32 (by decide) i
    have f4 := FM_trans f3 (FM_mono f4' (by intro p hp; cases hp) (by decide) : FM slF [66, 67] wb (aS wb 66 0 xa))
    obtain ⟨wc, hwc⟩ : ∃ wc, wc = aS wb 66 0 xa := ⟨_, rfl⟩
    rw [← hwc] at h f4 f4' m4
    have S4 := f4.2.2.2
    rw [FM_r f4 (by simp), h0] at h
    have h := use_p S4 h (fun _ _ y => cell wc 1 1 _ _ _ f4 o32 (by decide) y)
    obtain ⟨_, h⟩ := h
    have h := h _ rfl
    rw [← hxb] at h hB
    have f5' : FM [] [66] wc (aS wc 66 1 xb) := FM_aS S4 (by decide)
    have m5 := fun i => aS66 (x := xb) S4 (d := 1) o32 (by decide) i
    have f5 := FM_trans f4 (FM_mono f5' (by intro p hp; cases hp) (by decide) : FM slF [66, 67] wc (aS wc 66 1 xb))
    obtain ⟨wd, hwd⟩ : ∃ wd, wd = aS wc 66 1 xb := ⟨_, rfl⟩
    rw [← hwd] at h f5 f5' m5
    have S5 := f5.2.2.2
    have h := h _ rfl
    have f6' : FM [(55, 6)] [] wd (sI wd 55 6 0) := FM_sI S5 (by decide)
    have g6 : gI (sI wd 55 6 0) 55 6 = 0 := gI_sI (SK_isF S5 (by decide +kernel))
    have f6 := FM_trans f5 (FM_mono f6' (by decide) (by intro p hp; cases hp) : FM slF [66, 67] wd (sI wd 55 6 0))
    obtain ⟨we, hwe⟩ : ∃ we, we = sI wd 55 6 0 := ⟨_, rfl⟩
    rw [← hwe] at h f6 f6' g6
    have S6 := f6.2.2.2
    obtain ⟨_, _, h⟩ := h
    have pa : (gA we 66).getD 0 0 = xa := by rw [FM_a f6' (by simp), m5, if_neg (by decide), m4, if_pos rfl]
    have pb : (gA we 66).getD 1 0 = xb := by rw [FM_a f6' (by simp), m5, if_pos rfl]
    have ea : aG we 66 0 = xa := by rw [aG_n (m := 0) z32]; exact pa
    have eb : aG we 66 1 = xb := by rw [aG_n (m := 1) o32]; exact pb
    rw [ea, eb] at h
    have hv' : gR we 33 0 = v := by rw [FM_r f6 (by simp)]; exact h0
    have h := use_p S6 h (fun _ _ y => F77n S6 (by decide +kernel) okv hv' hA hB (by omega) (by omega) y)
    have ff : FM [(55, 6)] [66] wb we := FM_trans (FM_mono f4' (by intro p hp; cases hp) (by decide)) (FM_trans (FM_mono f5' (by intro p hp; cases hp) (by decide)) (FM_mono f6' (by decide) (by intro p hp; cases hp)))
    have hC : SRC we v P y p3 fe rk := by
      refine ⟨by rw [FM_r ff (by simp)]; exact g0b, hv', v30, by rw [FM_i f6 (by simp <;> omega)]; exact hP, hP9, by rw [FM_r f6 (by simp <;> omega)]; exact h5, by rw [FM_i ff (by simp)]; exact g1b, by rw [FM_i ff (by simp), g2]; exact hN, fun p hp => ?_, fun p hp => ?_⟩
      · rw [FM_a f6 (by simp)]; exact hfe p hp
      · rw [FM_a f6 (by simp <;> omega)]; exact hrk p hp
    have hRR : ∀ i j, (rmI (vcl we v) (dA we 33) i j).toInt = (rmI (vcl w v) (dA w 33) i j).toInt := fun i j => by
      rw [show dA we 33 = dA w 33 from by funext q; unfold dA; rw [FM_a f6 (by decide)], show vcl we v = vcl w v from by
        funext q
        exact vcl_FMv hS f6 okv (by simp <;> omega) (by simp <;> omega) (by simp <;> omega) (by simp <;> omega) (by simp <;> omega) (by simp <;> omega) (by simp <;> omega) q]
    have g2e : (gI we 55 2).toInt = y := hC.2.2.2.2.2.2.2.1
    have out : ∀ wz, FM slF [66, 67] w wz → SRC wz v P y p3 fe rk → SBw wz P p3 fe rk a b (VRg (fun i j => (rmI (vcl w v) (dA w 33) i j).toInt) P y a b) → (if (gI wz 55 6) ≤ 0 then (r = some (.int 0) ∧ w' = wz) else (r = some (.int 1) ∧ w' = wz)) → FM slF [66, 67] w w' ∧ SRC w' v P y p3 fe rk ∧ SBw w' P p3 fe rk a b (VRg (fun i j => (rmI (vcl w v) (dA w 33) i j).toInt) P y a b) ∧ (((gI w' 55 6).toInt = 0 ∧ r = some (.int 0)) ∨ (0 < (gI w' 55 6).toInt ∧ r = some (.int 1))) := by
      intro wz fz hz hb hh
      have nn : 0 ≤ (gI wz 55 6).toInt := by
        rcases hb with ⟨q, _⟩ | ⟨m, c, _, _, q, _⟩ <;> omega
      by_cases c : gI wz 55 6 ≤ 0
      · rw [if_pos c] at hh
        rw [Int32.le_iff_toInt_le, z32] at c
        rw [hh.2]
        exact ⟨fz, hz, hb, Or.inl ⟨by omega, hh.1⟩⟩
      · rw [if_neg c] at hh
        rw [Int32.le_iff_toInt_le, z32] at c
        rw [hh.2]
        exact ⟨fz, hz, hb, Or.inr ⟨by omega, hh.1⟩⟩
    by_cases cr : rmI (vcl we v) (dA we 33) a b < gI we 55 2
    · rw [if_pos cr] at h
      rw [Int32.lt_iff_toInt_lt, g2e, hRR] at cr
      refine out we f6 hC (Or.inl ⟨by rw [g6, z32], fun m c q => ?_⟩) h
      have := (VPr_2.mp (VRg_2 q)).2.2.2
      omega
    · rw [if_neg cr] at h
      rw [Int32.lt_iff_toInt_lt, g2e, hRR] at cr
      obtain ⟨_, _, q19, w20, y20, h⟩ := h
      have hm := MSK_cg (MSK_or (MSK_b hA (show a < 9 by omega) (by decide)) (MSK_b hB (show b < 9 by omega) (by decide))) (fun q _ => snN_2 q)
      obtain ⟨b1, b2, _, b4⟩ := (F135_l (a := a) (b := b) S6 hC okv (fun i j => (hRR i j).symm) k).1 we 2 0 (fun _ _ => False) 2 _ _ _ (FM_refl S6) two32 (Nat.le_refl 2) (by decide) (by decide) (VPr_2.mpr ⟨ha, hb, hab, by show y ≤ (rmI (vcl w v) (dA w 33) a b).toInt; omega⟩) (fun i hi => by
        have c : i = 0 ∨ i = 1 := by omega
        rcases c with rfl | rfl
        · rw [pa]; exact hA
        · rw [pb]; exact hB) hm (Or.inl ⟨by rw [g6, z32], fun _ _ q => q⟩) (fun _ _ q => q.elim) (by rw [ea, eb] at y20; exact y20)
      have h := h b1 b2.2.2.2
      refine out w20 (FM_trans f6 (FM_mono b2 (by decide) (fun _ h => h))) (SRC_fm hC b2 (by decide) (by decide)) (SBw_cg (fun m x => ?_) b4) h
      rw [EXr_2]
      exact ⟨fun q => q.elim (fun q => q.elim) id, Or.inr⟩
end JIA
end
section
/-! ===== the reference's rounds: power, isRound, hasRoom, costOf, standing ===== -/
section JJA
variable {X : pm_X} {k k2 : Nat} {w0 w w1 w2 w3 w4 w5 wj w' : pm_W} {r r2 q0 q1 q2 : Option Value} {p1 p2 p3 p4 p5 i1 i2 i3 i4 i5 i6 i7 i8 z z1 z2 so x : Int32} {i v j m c u P t s a b d p q fx Q I J K T W N κ bm n : Nat} {l : Int64} {e g y : Int} {fe rk : Nat → Int} {E : Nat → Nat}
theorem F267 (hS : SK w) (h1 : p1.toInt = t) (ht : t ≤ 6) (h : PS X k 267 0 [.int p1, pm_dead, pm_dead] [] w r w') : ∃ z : Int32, z.toInt = (9 ^ t : Nat) ∧ r = some (.int z) ∧ w' = w := by
  have p6 : ∀ j, j ≤ 6 → 9 ^ j ≤ 531441 := fun j hj => Nat.le_trans (Nat.pow_le_pow_right (by decide) hj) (by decide)
  have lp : ∀ (k j : Nat) (i1 i2 : Int32), i2.toInt = j → j ≤ t → i1.toInt = (9 ^ j : Nat) → PS X k 267 4 [.int p1, .int i1, .int i2] [] w r w' → ∃ z : Int32, z.toInt = (9 ^ t : Nat) ∧ r = some (.int z) ∧ w' = w := by
    intro k
    induction k with
    | zero => intro j i1 i2 _ _ _ h; exact (PS_0 h).elim
    | succ k ih =>
      intro j i1 i2 h2 hj hv h
      have h := U267_4 hS h
      by_cases c : p1 ≤ i2
      · rw [if_pos c] at h
        rw [Int32.le_iff_toInt_le, h1, h2] at c
        exact ⟨i1, by rw [hv, show j = t by omega], h.1, h.2⟩
      · rw [if_neg c] at h
        rw [Int32.le_iff_toInt_le, h1, h2] at c
        have q := p6 (j + 1) (by omega)
        have q2 : 9 ^ (j + 1) = 9 ^ j * 9 := by rw [Nat.pow_succ]
        refine ih (j + 1) _ _ (by rw [zi_inc (n := 40) (by omega) (by omega), h2]; rfl) (by omega) ?_ h
        rw [zi_mul hv nine32 (by omega) (by omega)]
        omega
  cases k with
  | zero => exact (PS_0 h).elim
  | succ k => exact lp k 0 1 0 z32 (Nat.zero_le _) o32 (U267_0 hS h)
theorem l158 (hS : SK w) : (gA w 158).length = 6 := SK_len hS (a := 158) (n := 6) (by decide +kernel) (by decide)
theorem l159 (hS : SK w) : (gA w 159).length = 6 := SK_len hS (a := 159) (n := 6) (by decide +kernel) (by decide)
theorem aS158 (hS : SK w) (hx : i1.toInt = d) (hd : d < 6) (i : Nat) : (gA (aS w 158 i1 x) 158).getD i 0 = if i = d then x else (gA w 158).getD i 0 := by
  rw [gA_aS (SK_isA hS (by decide +kernel)), i_nat hx, getD_set (by rw [l158 hS]; exact hd)]
theorem aS159 (hS : SK w) (hx : i1.toInt = d) (hd : d < 6) (i : Nat) : (gA (aS w 159 i1 x) 159).getD i 0 = if i = d then x else (gA w 159).getD i 0 := by
  rw [gA_aS (SK_isA hS (by decide +kernel)), i_nat hx, getD_set (by rw [l159 hS]; exact hd)]
def snE (E : Nat → Nat) (t q : Nat) : Bool := (List.range t).any (fun i => Nat.beq (E i) q)
theorem snE_t : snE E t q = true ↔ ∃ i, i < t ∧ E i = q := by
  unfold snE
  rw [List.any_eq_true]
  constructor
  · rintro ⟨i, hi, e⟩
    exact ⟨i, List.mem_range.mp hi, Nat.eq_of_beq_eq_true e⟩
  · rintro ⟨i, hi, e⟩
    exact ⟨i, List.mem_range.mpr hi, by rw [e]; exact Nat.beq_refl q⟩
theorem snE_s : snE E (t + 1) q = (snE E t q || decide (q = E t)) := by
  apply Bool.eq_iff_iff.mpr
  rw [Bool.or_eq_true, snE_t, snE_t, decide_eq_true_iff]
  constructor
  · rintro ⟨i, hi, e⟩
    by_cases h : i = t
    · rw [h] at e; exact Or.inr e.symm
    · exact Or.inl ⟨i, by omega, e⟩
  · rintro (⟨i, hi, e⟩ | e)
    · exact ⟨i, by omega, e⟩
    · exact ⟨t, by omega, e.symm⟩
/-- people, none twice -/
def RNd (P : Nat) (E : Nat → Nat) (m : Nat) : Prop := (∀ i, i < m → E i < P) ∧ ∀ i j, i < j → j < m → E i ≠ E j
theorem F268 (hS : SK w) (hp : p1.toInt = (610 + 132 * u : Nat)) (hP : (al w (610 + 132 * u)).toInt = P) (hP9 : P ≤ 9) (h2 : p2.toInt = fx) (h3 : p3.toInt = m) (hf : 1 ≤ fx ∧ fx ≤ m) (hm : m ≤ 6) (h4 : p4.toInt = c) (hE0 : ∀ i, i < fx → ((gA w 158).getD i 0).toInt = E i) (hE : ∀ i, fx ≤ i → i < m → E i = c / 9 ^ (m - 1 - i) % 9) (h9 : ∀ i, i < m → E i < 9) (h : PS X k 268 0 [.ref 147, .int p1, .int p2, .int p3, .int p4, pm_dead, pm_dead, pm_dead] [] w r w') : FM [] [158] w w' ∧ (∀ i, i < m → ((gA w' 158).getD i 0).toInt = E i) ∧ ∃ bb : Bool, r = some (.int (b2i bb)) ∧ (bb = true ↔ RNd P E m) := by
  have chk : ∀ (k t : Nat) (wk : pm_W) (i5 i6 i7 : Int32), FM [] [158] w wk → (∀ i, i < m → ((gA wk 158).getD i 0).toInt = E i) → i7.toInt = t → t ≤ m → MSK i6 9 (snE E t) → RNd P E t → PS X k 268 46 [.ref 147, .int p1, .int p2, .int p3, .int p4, .int i5, .int i6, .int i7] [] wk r w' → FM [] [158] w w' ∧ (∀ i, i < m → ((gA w' 158).getD i 0).toInt = E i) ∧ ∃ bb : Bool, r = some (.int (b2i bb)) ∧ (bb = true ↔ RNd P E m) := by
    intro k
    induction k with
    | zero => intro t wk i5 i6 i7 _ _ _ _ _ _ h; exact (PS_0 h).elim
    | succ k ih =>
      intro t wk i5 i6 i7 fm hEk h7 ht hmk hr h
      have S1 : SK wk := fm.2.2.2
      have h := U268_46 S1 h
      by_cases c1 : p3 ≤ i7
      · rw [if_pos c1] at h
        rw [Int32.le_iff_toInt_le, h3, h7] at c1
        rw [h.2]
        exact ⟨fm, hEk, true, h.1, ⟨fun _ => by rw [show m = t by omega]; exact hr, fun _ => rfl⟩⟩
      · rw [if_neg c1] at h
        rw [Int32.le_iff_toInt_le, h3, h7] at c1
        have htm : t < m := by omega
        obtain ⟨_, h⟩ := h
        have ev : (aG wk 158 i7).toInt = E t := by rw [aG_n h7]; exact hEk t htm
        have h := use_p S1 h (fun _ _ y => F221n (m := 610 + 132 * u) (L := P) S1 hp (by rw [al_FM fm (by decide)]; exact hP) (by omega) y)
        by_cases cp : 0 ≤ (aG wk 158 i7).toInt ∧ (aG wk 158 i7).toInt < P
        · have h := ifb_t cp h
          rw [ev] at cp
          obtain ⟨_, h⟩ := h
          have e9 := h9 t htm
          have tb := MSK_t hmk ev e9 (by decide)
          by_cases cs : ((i6 >>> (aG wk 158 i7 &&& 31)) &&& 1) = 1
          · rw [if_pos cs] at h
            obtain ⟨i, hi, e⟩ := snE_t.mp (tb.mp cs)
            rw [h.2]
            exact ⟨fm, hEk, false, h.1, ⟨fun q => Bool.noConfusion q, fun q => absurd e (q.2 i t hi htm)⟩⟩
          · rw [if_neg cs] at h
            obtain ⟨_, h⟩ := h
            have ns : ¬ snE E t (E t) = true := fun q => cs (tb.mpr q)
            refine ih (t + 1) wk _ _ _ fm hEk (by rw [zi_inc (n := 40) (by omega) (by omega), h7]; rfl) (by omega) (MSK_cg (MSK_ob hmk ev e9 (by decide)) (fun q _ => snE_s)) ⟨fun i hi => ?_, fun i j hij hj => ?_⟩ h
            · by_cases e : i = t
              · rw [e]; omega
              · exact hr.1 i (by omega)
            · by_cases e : j = t
              · rw [e]
                exact fun q => ns (snE_t.mpr ⟨i, by omega, q⟩)
              · exact hr.2 i j hij (by omega)
        · have h := ifb_f cp h
          rw [ev] at cp
          rw [h.2]
          exact ⟨fm, hEk, false, h.1, ⟨fun q => Bool.noConfusion q, fun q => by have := q.1 t htm; omega⟩⟩
  have dig : ∀ (k s : Nat) (wk : pm_W) (i5 i6 : Int32), FM [] [158] w wk → i6.toInt = (m : Int) - 1 - s → s ≤ m - fx → i5.toInt = (c / 9 ^ s : Nat) → (∀ i, i < m → (i < fx ∨ m - s ≤ i) → ((gA wk 158).getD i 0).toInt = E i) → PS X k 268 9 [.ref 147, .int p1, .int p2, .int p3, .int p4, .int i5, .int i6, pm_dead] [] wk r w' → FM [] [158] w w' ∧ (∀ i, i < m → ((gA w' 158).getD i 0).toInt = E i) ∧ ∃ bb : Bool, r = some (.int (b2i bb)) ∧ (bb = true ↔ RNd P E m) := by
    intro k
    induction k with
    | zero => intro s wk i5 i6 _ _ _ _ _ h; exact (PS_0 h).elim
    | succ k ih =>
      intro s wk i5 i6 fm h6 hs h5 hEk h
      have S1 : SK wk := fm.2.2.2
      have h := U268_9 S1 h
      by_cases c1 : i6 < p2
      · rw [if_pos c1] at h
        rw [Int32.lt_iff_toInt_lt, h6, h2] at c1
        exact chk k 0 wk _ 0 0 fm (fun i hi => hEk i hi (by omega)) z32 (Nat.zero_le _) (MSK_cg MSK_0 (fun b _ => rfl)) ⟨fun i hi => absurd hi (Nat.not_lt_zero i), fun i j _ hj => absurd hj (Nat.not_lt_zero j)⟩ h
      · rw [if_neg c1] at h
        rw [Int32.lt_iff_toInt_lt, h6, h2] at c1
        obtain ⟨_, h⟩ := h
        have h := h _ rfl
        have e6 : i6.toInt = (m - 1 - s : Nat) := by omega
        have q9 : (i5 - i5 / 9 * 9).toInt = (c / 9 ^ s % 9 : Nat) := zi_rem h5 (b := 9) nine32
        have d9 : (i5 / 9).toInt = (c / 9 ^ s / 9 : Nat) := zi_div h5 (b := 9) nine32
        have ms := fun i => aS158 (x := i5 - i5 / 9 * 9) S1 e6 (by omega) i
        refine ih (s + 1) _ _ _ (FM_trans fm (FM_aS S1 (by decide))) (by rw [zi_add h6 (by decide +kernel : (-1 : Int32).toInt = -1) (by omega) (by omega)]; omega) (by omega) (by rw [d9, Nat.div_div_eq_div_mul, ← Nat.pow_succ]) (fun i hi hh => ?_) h
        rw [ms i]
        by_cases e : i = m - 1 - s
        · rw [if_pos e, q9, hE i (by omega) hi, show m - 1 - i = s by omega]
        · rw [if_neg e]
          exact hEk i hi (by omega)
  cases k with
  | zero => exact (PS_0 h).elim
  | succ k => exact dig k 0 w _ _ (FM_refl hS) (by rw [zi_sub h3 o32 (by omega) (by omega)]; omega) (Nat.zero_le _) (by rw [Nat.pow_zero, Nat.div_one]; exact h4) (fun i hi hh => hE0 i (by omega)) (U268_0 hS h)
theorem F269v (hS : SK w) (hu : u ≤ 1) (hp : p1.toInt = (610 + 132 * u : Nat)) (h2 : p2.toInt = m) (hm : 2 ≤ m ∧ m ≤ 6) (h3 : p3.toInt = y) (hE : ∀ i, i < m → ((gA w 158).getD i 0).toInt = E i) (h9 : ∀ i, i < m → E i < 9) (h : PS X k 269 0 [.ref 147, .int p1, .int p2, .int p3, pm_dead, pm_dead] [] w r w') : w' = w ∧ ∃ bb : Bool, r = some (.int (b2i bb)) ∧ (bb = true ↔ ∀ i, i < m → y ≤ rmA w u (E i) (E ((i + 1) % m))) := by
  have lp : ∀ (k t : Nat) (bb : Bool) (i5 : Int32), i5.toInt = t → t ≤ m → (bb = true ↔ ∀ i, i < t → y ≤ rmA w u (E i) (E ((i + 1) % m))) → PS X k 269 6 [.ref 147, .int p1, .int p2, .int p3, .int (b2i bb), .int i5] [] w r w' → w' = w ∧ ∃ bb : Bool, r = some (.int (b2i bb)) ∧ (bb = true ↔ ∀ i, i < m → y ≤ rmA w u (E i) (E ((i + 1) % m))) := by
    intro k
    induction k with
    | zero => intro t bb i5 _ _ _ h; exact (PS_0 h).elim
    | succ k ih =>
      intro t bb i5 h5 ht hb h
      have h := U269_6 hS h
      by_cases c1 : p2 ≤ i5
      · rw [if_pos c1] at h
        rw [Int32.le_iff_toInt_le, h2, h5] at c1
        exact ⟨h.2, bb, h.1, by rw [hb, show t = m by omega]⟩
      · rw [if_neg c1] at h
        rw [Int32.le_iff_toInt_le, h2, h5] at c1
        have htm : t < m := by omega
        cases bb with
        | false =>
          rw [if_pos (by decide +kernel)] at h
          exact ⟨h.2, false, h.1, ⟨fun q => Bool.noConfusion q, fun q => hb.mpr (fun i hi => q i (by omega))⟩⟩
        | true =>
          rw [if_neg (by decide +kernel)] at h
          obtain ⟨_, _, h⟩ := h
          have e1 : (i5 + 1).toInt = ((t + 1 : Nat) : Int) := by rw [zi_inc (n := 40) (by omega) (by omega), h5]; rfl
          have er : ((i5 + 1) - (i5 + 1) / p2 * p2).toInt = ((t + 1) % m : Nat) := zi_rem e1 h2
          have tm : (t + 1) % m < m := Nat.mod_lt _ (by omega)
          have v1 : (aG w 158 i5).toInt = E t := by rw [aG_n h5]; exact hE t htm
          have v2 : (aG w 158 ((i5 + 1) - (i5 + 1) / p2 * p2)).toInt = E ((t + 1) % m) := by rw [aG_n er]; exact hE _ tm
          have h := use_p hS h (fun _ _ y => F231n hS hp hu v1 v2 (h9 t htm) (h9 _ tm) y)
          have vr : (rmI (fun k => al w (610 + 132 * u + k)) (dR w) (E t) (E ((t + 1) % m))).toInt = rmA w u (E t) (E ((t + 1) % m)) := rfl
          by_cases c2 : rmI (fun k => al w (610 + 132 * u + k)) (dR w) (E t) (E ((t + 1) % m)) < p3
          · rw [if_pos c2] at h
            rw [Int32.lt_iff_toInt_lt, vr, h3] at c2
            exact ih (t + 1) false _ e1 (by omega) ⟨fun q => Bool.noConfusion q, fun q => by have := q t (by omega); omega⟩ h
          · rw [if_neg c2] at h
            rw [Int32.lt_iff_toInt_lt, vr, h3] at c2
            refine ih (t + 1) true _ e1 (by omega) ⟨fun _ i hi => ?_, fun _ => rfl⟩ h
            by_cases e : i = t
            · rw [e]; omega
            · exact hb.mp rfl i (by omega)
  cases k with
  | zero => exact (PS_0 h).elim
  | succ k => exact lp k 0 true 0 z32 (Nat.zero_le _) ⟨fun _ i hi => absurd hi (Nat.not_lt_zero i), fun _ => rfl⟩ (U269_0 hS h)
end JJA
end
section
/-! ===== costOf, standing, finds: the reference ===== -/
section JKA
variable {X : pm_X} {k k2 : Nat} {w0 w w1 w2 w3 w4 w5 wj w' : pm_W} {r r2 q0 q1 q2 : Option Value} {p1 p2 p3 p4 p5 i1 i2 i3 i4 i5 i6 i7 i8 i9 z z1 z2 so x : Int32} {i v j m c u P t s a b d p q fx Q I J K T W N κ bm n : Nat} {l l6 l10 : Int64} {e g y : Int} {fe rk : Nat → Int} {E : Nat → Nat} {u9 u10 u12 : Value}
theorem F270 (hS : SK w) (hp : p1.toInt = (610 + 132 * u : Nat)) (hu : u ≤ 1) (hfe : ∀ x : Nat, x < 9 → fe x = if (x : Int) = p2.toInt then p3.toInt else (al w (694 + 132 * u + x)).toInt) (hm : (gI w 147 24).toInt = m) (hm6 : 2 ≤ m ∧ m ≤ 6) (hE : ∀ i, i < m → ((gA w 158).getD i 0).toInt = E i) (h9 : ∀ i, i < m → E i < 9) (hb : ∀ i, i < m → 0 ≤ fe (E i) ∧ fe (E i) ≤ 1000) (h : PS X k 270 0 [.ref 147, .int p1, .int p2, .int p3, pm_dead, pm_dead] [] w r w') : w' = w ∧ ∃ z : Int32, r = some (.int z) ∧ z.toInt = suI (fun i => if 2 ≤ i then fe (E i) else 0) m ∧ 0 ≤ z.toInt ∧ z.toInt ≤ 6000 := by
  have e84 : (84 : Int32).toInt = 84 := by decide +kernel
  have lp : ∀ (k t : Nat) (i4 i5 : Int32), i5.toInt = t → 2 ≤ t → t ≤ m → i4.toInt = suI (fun i => if 2 ≤ i then fe (E i) else 0) t → 0 ≤ i4.toInt → i4.toInt ≤ 1000 * t → PS X k 270 6 [.ref 147, .int p1, .int p2, .int p3, .int i4, .int i5] [] w r w' → w' = w ∧ ∃ z : Int32, r = some (.int z) ∧ z.toInt = suI (fun i => if 2 ≤ i then fe (E i) else 0) m ∧ 0 ≤ z.toInt ∧ z.toInt ≤ 6000 := by
    intro k
    induction k with
    | zero => intro t i4 i5 _ _ _ _ _ _ h; exact (PS_0 h).elim
    | succ k ih =>
      intro t i4 i5 h5 h2t ht h4 b0 b1 h
      have h := U270_6 hS h
      by_cases c : gI w 147 24 ≤ i5
      · rw [if_pos c] at h
        rw [Int32.le_iff_toInt_le, hm, h5] at c
        exact ⟨h.2, i4, h.1, by rw [h4, show t = m by omega], b0, by omega⟩
      · rw [if_neg c] at h
        rw [Int32.le_iff_toInt_le, hm, h5] at c
        have htm : t < m := by omega
        obtain ⟨_, h⟩ := h
        have e1 : (i5 + 1).toInt = ((t + 1 : Nat) : Int) := by rw [zi_inc (n := 40) (by omega) (by omega), h5]; rfl
        have ev : (aG w 158 i5).toInt = E t := by rw [aG_n h5]; exact hE t htm
        have fb := hb t htm
        have fv := hfe (E t) (h9 t htm)
        have s1 : suI (fun i => if 2 ≤ i then fe (E i) else 0) (t + 1) = suI (fun i => if 2 ≤ i then fe (E i) else 0) t + fe (E t) := by
          show _ + (if 2 ≤ t then fe (E t) else 0) = _
          rw [if_pos h2t]
        by_cases c2 : aG w 158 i5 = p2
        · rw [if_pos c2] at h
          rw [if_pos (by rw [← c2, ev])] at fv
          have ea : (i4 + p3).toInt = i4.toInt + fe (E t) := zi_add rfl fv.symm (by omega) (by omega)
          exact ih (t + 1) _ _ e1 (by omega) (by omega) (by rw [ea, h4, s1]) (by omega) (by omega) h
        · rw [if_neg c2] at h
          rw [if_neg (fun q => c2 (Int32.toInt_inj.mp (by rw [ev, q])))] at fv
          obtain ⟨_, _, h⟩ := h
          have e9 := h9 t htm
          have ev2 : (aG w 148 ((p1 + 84) + aG w 158 i5)).toInt = fe (E t) := by
            rw [aG_n (m := 694 + 132 * u + E t) (by rw [zi_add (zi_add hp e84 (by omega) (by omega)) ev (by omega) (by omega)]; omega), fv]
            rfl
          have ea : (i4 + aG w 148 ((p1 + 84) + aG w 158 i5)).toInt = i4.toInt + fe (E t) := zi_add rfl ev2 (by omega) (by omega)
          exact ih (t + 1) _ _ e1 (by omega) (by omega) (by rw [ea, h4, s1]) (by omega) (by omega) h
  cases k with
  | zero => exact (PS_0 h).elim
  | succ k => exact lp k 2 0 2 two32 (Nat.le_refl 2) hm6.1 z32 (by rw [z32]; omega) (by rw [z32]; omega) (U270_0 hS h)
theorem pr_b {f : Nat → Int} (h : ∀ i, i < m → 0 ≤ f i ∧ f i ≤ 100) : ∀ t, t ≤ m → 0 ≤ prI f t ∧ prI f t ≤ (100 : Int) ^ t := by
  intro t
  induction t with
  | zero => intro _; exact ⟨by show (0 : Int) ≤ 1; omega, Int.le_refl _⟩
  | succ t ih =>
    intro ht
    obtain ⟨q0, q1⟩ := ih (by omega)
    have q2 := h t (by omega)
    show 0 ≤ prI f t * f t ∧ prI f t * f t ≤ (100 : Int) ^ (t + 1)
    refine ⟨Int.mul_nonneg q0 (by omega), ?_⟩
    rw [Int.pow_succ]
    exact Int.mul_le_mul q1 (by omega) (by omega) (Int.le_of_lt (Int.pow_pos (by decide)))
theorem F271 (hS : SK w) (hp : p1.toInt = (610 + 132 * u : Nat)) (hu : u ≤ 1) (hrk : ∀ x : Nat, x < 9 → rk x = (al w (703 + 132 * u + x)).toInt) (h2 : p2.toInt = m) (hm6 : 2 ≤ m ∧ m ≤ 6) (hE : ∀ i, i < m → ((gA w 158).getD i 0).toInt = E i) (h9 : ∀ i, i < m → E i < 9) (hb : ∀ i, i < m → 0 ≤ rk (E i) ∧ rk (E i) ≤ 100) (h : PS X k 271 0 [.ref 147, .int p1, .int p2, pm_dead, pm_dead, pm_dead] [] w r w') : w' = w ∧ ∃ l : Int64, r = some (.long l) ∧ l.toInt = prI (fun i => 100 - rk (E i)) m * (100 : Int) ^ (6 - m) := by
  have e93 : (93 : Int32).toInt = 93 := by decide +kernel
  have e100 : (100 : Int32).toInt = 100 := by decide +kernel
  have e6 : (6 : Int32).toInt = 6 := by decide +kernel
  obtain ⟨F, hF⟩ : ∃ F : Nat → Int, F = fun i => if i < m then 100 - rk (E i) else 100 := ⟨_, rfl⟩
  have Fb : ∀ i, i < 6 → 0 ≤ F i ∧ F i ≤ 100 := fun i _ => by
    rw [hF]
    show 0 ≤ (if i < m then 100 - rk (E i) else 100) ∧ (if i < m then 100 - rk (E i) else 100) ≤ 100
    by_cases c : i < m
    · rw [if_pos c]; have := hb i c; omega
    · rw [if_neg c]; omega
  have fin : prI F 6 = prI (fun i => 100 - rk (E i)) m * (100 : Int) ^ (6 - m) := by
    have g : ∀ t, t ≤ m → prI F t = prI (fun i => 100 - rk (E i)) t := by
      intro t
      induction t with
      | zero => intro _; rfl
      | succ t ih =>
        intro ht
        show prI F t * F t = prI _ t * (100 - rk (E t))
        rw [ih (by omega), hF]
        show _ * (if t < m then 100 - rk (E t) else 100) = _
        rw [if_pos (by omega)]
    have g2 : ∀ s, prI F (m + s) = prI F m * (100 : Int) ^ s := by
      intro s
      induction s with
      | zero => show prI F m = prI F m * 1; rw [Int.mul_one]
      | succ s ih =>
        show prI F (m + s) * F (m + s) = _
        rw [ih, hF]
        show _ * (if m + s < m then _ else (100 : Int)) = _
        rw [if_neg (by omega), Int.pow_succ, Int.mul_assoc]
    have q := g2 (6 - m)
    rw [show m + (6 - m) = 6 by omega, g m (Nat.le_refl m)] at q
    exact q
  have lp : ∀ (k t : Nat) (l3 : Int64) (i5 : Int32), i5.toInt = t → t ≤ 6 → l3.toInt = prI F t → PS X k 271 5 [.ref 147, .int p1, .int p2, .long l3, pm_dead, .int i5] [] w r w' → w' = w ∧ ∃ l : Int64, r = some (.long l) ∧ l.toInt = prI F 6 := by
    intro k
    induction k with
    | zero => intro t l3 i5 _ _ _ h; exact (PS_0 h).elim
    | succ k ih =>
      intro t l3 i5 h5 ht h3 h
      have h := U271_5 hS h
      by_cases c : 6 ≤ i5
      · rw [if_pos c] at h
        rw [Int32.le_iff_toInt_le, e6, h5] at c
        exact ⟨h.2, l3, h.1, by rw [h3, show t = 6 by omega]⟩
      · rw [if_neg c] at h
        rw [Int32.le_iff_toInt_le, e6, h5] at c
        have e1 : (i5 + 1).toInt = ((t + 1 : Nat) : Int) := by rw [zi_inc (n := 40) (by omega) (by omega), h5]; rfl
        have pb := pr_b (m := 6) Fb (t + 1) (by omega)
        have s1 : prI F (t + 1) = prI F t * F t := rfl
        rw [s1] at pb
        have p12 := (pow100 (t + 1) (by omega)).1
        by_cases c2 : p2 ≤ i5
        · rw [if_pos c2] at h
          rw [Int32.le_iff_toInt_le, h2, h5] at c2
          have fv : F t = 100 := by rw [hF]; exact if_neg (by omega)
          rw [fv] at s1 pb
          exact ih (t + 1) _ _ e1 (by omega) (by rw [s1]; exact lg_mul h3 l100_64 pb.1 (Int.le_trans pb.2 p12)) h
        · rw [if_neg c2] at h
          rw [Int32.le_iff_toInt_le, h2, h5] at c2
          have htm : t < m := by omega
          have fv : F t = 100 - rk (E t) := by rw [hF]; exact if_pos htm
          rw [fv] at s1 pb
          obtain ⟨_, _, h⟩ := h
          have ev : (aG w 158 i5).toInt = E t := by rw [aG_n h5]; exact hE t htm
          have e9 := h9 t htm
          have rb := hb t htm
          have ev2 : (aG w 148 ((p1 + 93) + aG w 158 i5)).toInt = rk (E t) := by
            rw [aG_n (m := 703 + 132 * u + E t) (by rw [zi_add (zi_add hp e93 (by omega) (by omega)) ev (by omega) (by omega)]; omega), hrk (E t) e9]
            rfl
          have v4 : ((100 - aG w 148 ((p1 + 93) + aG w 158 i5)).toInt64).toInt = 100 - rk (E t) := by rw [Int32.toInt_toInt64, zi_sub e100 ev2 (by omega) (by omega)]
          exact ih (t + 1) _ _ e1 (by omega) (by rw [s1]; exact lg_mul h3 v4 pb.1 (Int.le_trans pb.2 p12)) h
  cases k with
  | zero => exact (PS_0 h).elim
  | succ k =>
    obtain ⟨b1, l, b2, b3⟩ := lp k 0 1 0 z32 (Nat.zero_le _) l1_64 (U271_0 hS h)
    exact ⟨b1, l, b2, by rw [b3, fin]⟩
theorem X192 (hS : SK w) (h : PS X k 266 192 [.ref 147, .int i1, .int i2, .int i3, .int i4, .int i5, .long l6, pm_dead, .int i8, .int i9, u10, pm_dead, u12] [] w r w') : ∃ k', k' < k ∧ PS X k' 266 21 [.ref 147, .int i1, .int i2, .int i3, .int i4, .int i5, .long l6, pm_dead, .int i8, .int (i9 + 1), u10, pm_dead, u12] [] w r w' := by
  cases k with
  | zero => exact (PS_0 h).elim
  | succ k => exact ⟨k, Nat.lt_succ_self k, U266_192 hS h⟩
/-- the round becomes the best one -/
theorem X152 (hS : SK w) (hm : 2 ≤ m ∧ m ≤ 6) (h8 : i8.toInt = m) (h : PS X k 266 152 [.ref 147, .int i1, .int i2, .int i3, .int i4, .int i5, .long l6, pm_dead, .int i8, .int i9, .long l10, pm_dead, u12] [] w r w') : ∃ (k' : Nat) (wz : pm_W) (v10 v12 : Value), k' < k ∧ FM [(147, 23)] [159] w wz ∧ (gI wz 147 23).toInt = m ∧ (∀ i, i < m → (gA wz 159).getD i 0 = (gA w 158).getD i 0) ∧ PS X k' 266 21 [.ref 147, .int i1, .int i2, .int i3, .int i4, .int i5, .long l10, pm_dead, .int i8, .int (i9 + 1), v10, pm_dead, v12] [] wz r w' := by
  cases k with
  | zero => exact (PS_0 h).elim
  | succ k =>
    have h := U266_152 hS h _ rfl
    have f1 : FM [(147, 23)] [159] w (sI w 147 23 i8) := FM_sI hS (by decide)
    have g1 : gI (sI w 147 23 i8) 147 23 = i8 := gI_sI (SK_isF hS (by decide +kernel))
    have lp : ∀ (k t : Nat) (wk : pm_W) (i12 : Int32), FM [] [159] (sI w 147 23 i8) wk → i12.toInt = t → t ≤ m → (∀ i, i < t → (gA wk 159).getD i 0 = (gA w 158).getD i 0) → PS X k 266 165 [.ref 147, .int i1, .int i2, .int i3, .int i4, .int i5, .long l10, pm_dead, .int i8, .int i9, .long l10, pm_dead, .int i12] [] wk r w' → ∃ (k' : Nat) (wz : pm_W) (v10 v12 : Value), k' < k ∧ FM [(147, 23)] [159] w wz ∧ (gI wz 147 23).toInt = m ∧ (∀ i, i < m → (gA wz 159).getD i 0 = (gA w 158).getD i 0) ∧ PS X k' 266 21 [.ref 147, .int i1, .int i2, .int i3, .int i4, .int i5, .long l10, pm_dead, .int i8, .int (i9 + 1), v10, pm_dead, v12] [] wz r w' := by
      intro k
      induction k with
      | zero => intro t wk i12 _ _ _ _ h; exact (PS_0 h).elim
      | succ k ih =>
        intro t wk i12 fm h12 ht hc h
        have S1 : SK wk := fm.2.2.2
        have h := U266_165 S1 h
        by_cases c : i8 ≤ i12
        · rw [if_pos c] at h
          rw [Int32.le_iff_toInt_le, h8, h12] at c
          obtain ⟨k', hk, h⟩ := X192 S1 h
          exact ⟨k', wk, _, _, by omega, FM_trans f1 (FM_mono fm (by intro p hp; cases hp) (by decide)), by rw [FM_i fm (by simp), g1, h8], fun i hi => hc i (by omega), h⟩
        · rw [if_neg c] at h
          rw [Int32.le_iff_toInt_le, h8, h12] at c
          obtain ⟨_, _, h⟩ := h
          have h := h _ rfl
          have ms := fun i => aS159 (x := aG wk 158 i12) S1 h12 (by omega) i
          obtain ⟨k', wz, v10, v12, a0, a1, a2, a3, a4⟩ := ih (t + 1) _ _ (FM_trans fm (FM_aS S1 (by decide))) (by rw [zi_inc (n := 40) (by omega) (by omega), h12]; rfl) (by omega) (fun i hi => by
            rw [ms i]
            by_cases e : i = t
            · rw [if_pos e, aG_n h12, FM_a fm (by decide), gA_sI, e]
            · rw [if_neg e]; exact hc i (by omega)) h
          exact ⟨k', wz, v10, v12, by omega, a1, a2, a3, a4⟩
    obtain ⟨k', wz, v10, v12, a0, a1, a2, a3, a4⟩ := lp k 0 _ 0 (FM_refl f1.2.2.2) z32 (Nat.zero_le _) (fun i hi => absurd hi (Nat.not_lt_zero i)) h
    exact ⟨k', wz, v10, v12, by omega, a1, a2, a3, a4⟩
end JKA
end
section
/-! ===== finds: the reference ===== -/
section JLA
variable {X : pm_X} {k k2 : Nat} {w0 w w1 w2 w3 w4 w5 wj w' : pm_W} {r r2 q0 q1 q2 : Option Value} {p1 p2 p3 p4 p5 i1 i2 i3 i4 i5 i6 i7 i8 i9 z z1 z2 so x : Int32} {i v j m c u P t s a b d p q fx Q I J K T W N κ bm n : Nat} {l l6 l10 : Int64} {e g y : Int} {fe rk : Nat → Int} {E : Nat → Nat} {u9 u10 u12 : Value} {V : Nat → Nat → Prop} {R : Nat → Nat → Int}
theorem VRg_i (hm : 2 ≤ m ∧ m ≤ 6) (hc : c < 9 ^ (m - 2)) : VRg R P y a b m c ↔ RNd P (elN a b m c) m ∧ ∀ i, i < m → y ≤ R (elN a b m c i) (elN a b m c ((i + 1) % m)) := by
  constructor
  · rintro ⟨_, _, _, ⟨h1, h2, h3⟩, h4⟩
    refine ⟨⟨h1, h2⟩, fun i hi => ?_⟩
    by_cases e : i + 1 < m
    · rw [Nat.mod_eq_of_lt e]; exact h3 i e
    · rw [show i + 1 = m by omega, Nat.mod_self, show i = m - 1 by omega]; exact h4
  · rintro ⟨⟨h1, h2⟩, h3⟩
    refine ⟨hm.1, hm.2, hc, ⟨h1, h2, fun i hi => ?_⟩, ?_⟩
    · have q := h3 i (by omega)
      rw [Nat.mod_eq_of_lt hi] at q
      exact q
    · have q := h3 (m - 1) (by omega)
      rw [show m - 1 + 1 = m by omega, Nat.mod_self] at q
      exact q
def SBr (w : pm_W) (P : Nat) (so : Int32) (fe rk : Nat → Int) (a b : Nat) (V : Nat → Nat → Prop) : Prop := ((gI w 147 23).toInt = 0 ∧ ∀ m c, ¬ V m c) ∨ ∃ m c : Nat, BSt (GR so fe rk a b) V m c ∧ (2 ≤ m ∧ m ≤ 6) ∧ (gI w 147 23).toInt = m ∧ ∀ i, i < m → ((gA w 159).getD i 0).toInt = elN a b m c i ∧ elN a b m c i < P
theorem SBr_cg {V' : Nat → Nat → Prop} (h : ∀ m c, V m c ↔ V' m c) (hB : SBr w P so fe rk a b V) : SBr w P so fe rk a b V' := by
  rcases hB with ⟨h1, h2⟩ | ⟨m, c, h1, h2⟩
  · exact Or.inl ⟨h1, fun m c q => h2 m c ((h m c).mpr q)⟩
  · exact Or.inr ⟨m, c, BSt_cg h h1, h2⟩
theorem SBr_fm {fs : List (Nat × Nat)} {as : List Nat} (hB : SBr w P so fe rk a b V) (f : FM fs as w w') (h1 : (147, 23) ∉ fs) (h2 : 159 ∉ as) : SBr w' P so fe rk a b V := by
  unfold SBr
  rw [FM_i f h1, FM_a f h2]
  exact hB
/-- seen before m, c -/
def VBf (R : Nat → Nat → Int) (P : Nat) (y : Int) (a b m c m' c' : Nat) : Prop := VRg R P y a b m' c' ∧ (m' < m ∨ (m' = m ∧ c' < c))
abbrev rrF : List (Nat × Nat) := [(147, 23), (147, 24)]
theorem F266_l (hS0 : SK w0) (hp : i1.toInt = (610 + 132 * u : Nat)) (hu : u ≤ 1) (hP : (al w0 (610 + 132 * u)).toInt = P) (hP9 : P ≤ 9) (hκ : i2.toInt = κ) (hκ7 : κ < 7) (hA : (wtP (al w0) u κ 0).toInt = a) (hB : (wtP (al w0) u κ 1).toInt = b) (hN : (wtP (al w0) u κ 2).toInt = y) (ha : a < P) (hb : b < P) (hso : i3 = 0 ∨ i3 = 1 ∨ i3 = 2) (hfe : ∀ x : Nat, x < 9 → fe x = if (x : Int) = i4.toInt then i5.toInt else (al w0 (694 + 132 * u + x)).toInt) (hrk : ∀ x : Nat, x < 9 → rk x = (al w0 (703 + 132 * u + x)).toInt) (hfb : ∀ x, x < P → 0 ≤ fe x ∧ fe x ≤ 1000) (hrb : ∀ x, x < P → 0 ≤ rk x ∧ rk x ≤ 100) : ∀ k : Nat,
    (∀ (w : pm_W) (m : Nat) (l6 : Int64) (i8 : Int32) (u9 u10 u12 : Value), FM rrF [158, 159] w0 w → i8.toInt = m → 2 ≤ m → m ≤ 7 → SBr w P i3 fe rk a b (VBf (rmA w0 u) P y a b m 0) → (∀ m' c', BSt (GR i3 fe rk a b) (VBf (rmA w0 u) P y a b m 0) m' c' → l6.toInt = GR i3 fe rk a b m' c') → PS X k 266 11 [.ref 147, .int i1, .int i2, .int i3, .int i4, .int i5, .long l6, pm_dead, .int i8, u9, u10, pm_dead, u12] [] w r w' → FM rrF [158, 159] w0 w' ∧ SBr w' P i3 fe rk a b (VRg (rmA w0 u) P y a b) ∧ (((gI w' 147 23).toInt = 0 ∧ r = some (.int 0)) ∨ (0 < (gI w' 147 23).toInt ∧ r = some (.int 1)))) ∧
    (∀ (w : pm_W) (m c : Nat) (l6 : Int64) (i8 i9 : Int32) (u10 u12 : Value), FM rrF [158, 159] w0 w → i8.toInt = m → 2 ≤ m → m ≤ 6 → i9.toInt = c → c ≤ 9 ^ (m - 2) → SBr w P i3 fe rk a b (VBf (rmA w0 u) P y a b m c) → (∀ m' c', BSt (GR i3 fe rk a b) (VBf (rmA w0 u) P y a b m c) m' c' → l6.toInt = GR i3 fe rk a b m' c') → PS X k 266 21 [.ref 147, .int i1, .int i2, .int i3, .int i4, .int i5, .long l6, pm_dead, .int i8, .int i9, u10, pm_dead, u12] [] w r w' → FM rrF [158, 159] w0 w' ∧ SBr w' P i3 fe rk a b (VRg (rmA w0 u) P y a b) ∧ (((gI w' 147 23).toInt = 0 ∧ r = some (.int 0)) ∨ (0 < (gI w' 147 23).toInt ∧ r = some (.int 1)))) := by
  have e7 : (7 : Int32).toInt = 7 := by decide +kernel
  have p6 : ∀ j, j ≤ 6 → 9 ^ j ≤ 531441 := fun j hj => Nat.le_trans (Nat.pow_le_pow_right (by decide) hj) (by decide)
  intro k
  induction k using Nat.strongRecOn with
  | _ k ih =>
    match k, ih with
    | 0, _ => exact ⟨fun _ _ _ _ _ _ _ _ _ _ _ _ _ h => (PS_0 h).elim, fun _ _ _ _ _ _ _ _ _ _ _ _ _ _ _ _ h => (PS_0 h).elim⟩
    | k + 1, ih =>
      refine ⟨fun w m l6 i8 u9 u10 u12 fm h8 m2 m7 hB' hl h => ?_, fun w m c l6 i8 i9 u10 u12 fm h8 m2 m6 h9 hc hB' hl h => ?_⟩
      · have hS : SK w := fm.2.2.2
        have h := U266_11 hS h
        by_cases c7 : 7 ≤ i8
        · rw [if_pos c7] at h
          rw [Int32.le_iff_toInt_le, e7, h8] at c7
          have em : m = 7 := by omega
          have nn : 0 ≤ (gI w 147 23).toInt := by
            rcases hB' with ⟨q, _⟩ | ⟨m, c, _, _, q, _⟩ <;> omega
          have hBB : SBr w P i3 fe rk a b (VRg (rmA w0 u) P y a b) := SBr_cg (fun m' c' => ⟨fun q => q.1, fun q => ⟨q, Or.inl (by have := q.2.1; omega)⟩⟩) hB'
          by_cases c2 : gI w 147 23 ≤ 0
          · rw [if_pos c2] at h
            rw [Int32.le_iff_toInt_le, z32] at c2
            rw [h.2]
            exact ⟨fm, hBB, Or.inl ⟨by omega, h.1⟩⟩
          · rw [if_neg c2] at h
            rw [Int32.le_iff_toInt_le, z32] at c2
            rw [h.2]
            exact ⟨fm, hBB, Or.inr ⟨by omega, h.1⟩⟩
        · rw [if_neg c7] at h
          rw [Int32.le_iff_toInt_le, e7, h8] at c7
          exact (ih k (Nat.lt_succ_self k)).2 w m 0 l6 i8 0 _ _ fm h8 m2 (by omega) z32 (Nat.zero_le _) hB' hl h
      · have hS : SK w := fm.2.2.2
        have pm := p6 (m - 2) (by omega)
        have h := U266_21 hS h
        obtain ⟨zp, hzp, h⟩ := use_z hS h (fun _ _ t => F267 (t := m - 2) hS (by rw [zi_sub h8 two32 (by omega) (by omega)]; omega) (by omega) t)
        by_cases c1 : zp ≤ i9
        · rw [if_pos c1] at h
          rw [Int32.le_iff_toInt_le, hzp, h9] at c1
          have ev : ∀ m' c', VBf (rmA w0 u) P y a b m c m' c' ↔ VBf (rmA w0 u) P y a b (m + 1) 0 m' c' := by
            intro m' c'
            constructor
            · rintro ⟨q1, q2⟩
              exact ⟨q1, by omega⟩
            · rintro ⟨q1, q2⟩
              refine ⟨q1, ?_⟩
              by_cases e : m' = m
              · have := q1.2.2.1
                rw [e] at this
                exact Or.inr ⟨e, by omega⟩
              · exact Or.inl (by omega)
          exact (ih k (Nat.lt_succ_self k)).1 w (m + 1) l6 _ _ _ _ fm (by rw [zi_inc (n := 40) (by omega) (by omega), h8]; rfl) (by omega) (by omega) (SBr_cg ev hB') (fun m' c' q => hl m' c' (BSt_cg (fun m c => (ev m c).symm) q)) h
        · rw [if_neg c1] at h
          rw [Int32.le_iff_toInt_le, hzp, h9] at c1
          have hcl : c < 9 ^ (m - 2) := by omega
          have e0 : al w = al w0 := al_FM fm (by decide)
          have h := use_p hS h (fun _ _ y => F224w (c := 0) hS hu hp hκ hκ7 z32 (by decide) y)
          obtain ⟨_, h⟩ := h
          have h := h _ rfl
          rw [e0] at h
          have m1 := fun i => aS158 (x := wtP (al w0) u κ 0) hS (d := 0) z32 (by decide) i
          have f1 : FM [] [158] w (aS w 158 0 (wtP (al w0) u κ 0)) := FM_aS hS (by decide)
          obtain ⟨wa, hwa⟩ : ∃ wa, wa = aS w 158 0 (wtP (al w0) u κ 0) := ⟨_, rfl⟩
          rw [← hwa] at h m1 f1
          have S1 := f1.2.2.2
          have h := use_p S1 h (fun _ _ y => F224w (c := 1) S1 hu hp hκ hκ7 o32 (by decide) y)
          obtain ⟨_, h⟩ := h
          have h := h _ rfl
          rw [al_FM f1 (by decide), e0] at h
          have m2' := fun i => aS158 (x := wtP (al w0) u κ 1) S1 (d := 1) o32 (by decide) i
          have f2 : FM [] [158] wa (aS wa 158 1 (wtP (al w0) u κ 1)) := FM_aS S1 (by decide)
          obtain ⟨wb, hwb⟩ : ∃ wb, wb = aS wa 158 1 (wtP (al w0) u κ 1) := ⟨_, rfl⟩
          rw [← hwb] at h m2' f2
          have S2 := f2.2.2.2
          have f02 := FM_trans f1 f2
          obtain ⟨q12, w13, y13, h⟩ := h
          have el9 : ∀ i, i < m → elN a b m c i < 9 := by
            intro i hi
            unfold elN
            split
            · omega
            · split
              · omega
              · exact Nat.mod_lt _ (by decide)
          obtain ⟨f3, hE, bb, b1, b2⟩ := F268 (E := elN a b m c) (c := c) S2 hp (by rw [al_FM f02 (by decide), e0]; exact hP) hP9 (fx := 2) two32 h8 ⟨by decide, m2⟩ m6 h9 (fun i hi => by
            have ci : i = 0 ∨ i = 1 := by omega
            rcases ci with rfl | rfl
            · rw [m2', if_neg (by decide), m1, if_pos rfl]; exact hA
            · rw [m2', if_pos rfl]; exact hB) (fun i hi1 hi2 => by
            unfold elN
            rw [if_neg (by omega), if_neg (by omega)]) el9 y13
          have S3 := f3.2.2.2
          have h := h _ b1 S3
          have f03 := FM_trans f02 f3
          have fm3 : FM rrF [158, 159] w0 w13 := FM_trans fm (FM_mono f03 (by intro p hp; cases hp) (by decide))
          have e3 : al w13 = al w0 := al_FM fm3 (by decide)
          have hB3 : SBr w13 P i3 fe rk a b (VBf (rmA w0 u) P y a b m c) := SBr_fm hB' f03 (by simp) (by decide)
          have e91 : (i9 + 1).toInt = ((c + 1 : Nat) : Int) := by rw [zi_inc (n := 1000000) (by omega) (by omega), h9]; rfl
          -- no round: on
          have skip : ∀ (k' : Nat) (wz : pm_W) (u10 u12 : Value), k' < k + 1 → FM rrF [158, 159] w0 wz → SBr wz P i3 fe rk a b (VBf (rmA w0 u) P y a b m c) → ¬ VRg (rmA w0 u) P y a b m c → PS X k' 266 192 [.ref 147, .int i1, .int i2, .int i3, .int i4, .int i5, .long l6, pm_dead, .int i8, .int i9, u10, pm_dead, u12] [] wz r w' → FM rrF [158, 159] w0 w' ∧ SBr w' P i3 fe rk a b (VRg (rmA w0 u) P y a b) ∧ (((gI w' 147 23).toInt = 0 ∧ r = some (.int 0)) ∨ (0 < (gI w' 147 23).toInt ∧ r = some (.int 1))) := by
            intro k' wz u10 u12 hk fz hz hn hh
            obtain ⟨k'', hk2, hh⟩ := X192 fz.2.2.2 hh
            have ev : ∀ m' c', VBf (rmA w0 u) P y a b m c m' c' ↔ VBf (rmA w0 u) P y a b m (c + 1) m' c' := by
              intro m' c'
              constructor
              · rintro ⟨q1, q2⟩
                exact ⟨q1, by omega⟩
              · rintro ⟨q1, q2⟩
                refine ⟨q1, ?_⟩
                by_cases e : m' = m ∧ c' = c
                · rw [e.1, e.2] at q1
                  exact absurd q1 hn
                · omega
            exact (ih k'' (by omega)).2 wz m (c + 1) l6 i8 _ _ _ fz h8 m2 m6 e91 (by omega) (SBr_cg ev hz) (fun m' c' q => hl m' c' (BSt_cg (fun m c => (ev m c).symm) q)) hh
          have evp : ∀ m' c', VRg (rmA w0 u) P y a b m c → ((VBf (rmA w0 u) P y a b m c m' c' ∨ (m' = m ∧ c' = c)) ↔ VBf (rmA w0 u) P y a b m (c + 1) m' c') := by
            intro m' c' hv
            constructor
            · rintro (⟨q1, q2⟩ | ⟨q1, q2⟩)
              · exact ⟨q1, by omega⟩
              · rw [q1, q2]; exact ⟨hv, Or.inr ⟨rfl, by omega⟩⟩
            · rintro ⟨q1, q2⟩
              by_cases e : m' = m ∧ c' = c
              · exact Or.inr e
              · exact Or.inl ⟨q1, by omega⟩
          cases bb with
          | false =>
            rw [if_pos (by decide +kernel)] at h
            exact skip k w13 _ _ (by omega) fm3 hB3 (fun q => Bool.noConfusion (b2.mpr ((VRg_i ⟨m2, m6⟩ hcl).mp q).1)) h
          | true =>
            rw [if_neg (by decide +kernel)] at h
            have hr := b2.mp rfl
            have h := use_p S3 h (fun _ _ y => F224w (c := 2) S3 hu hp hκ hκ7 two32 (by decide) y)
            rw [e3] at h
            obtain ⟨q18, w19, y19, h⟩ := h
            obtain ⟨d0, bb, d1, d2⟩ := F269v S3 hu hp h8 ⟨m2, m6⟩ hN hE el9 y19
            rw [rmA_fm fm3 (by decide) (by decide)] at d2
            have h := h _ d1 (by rw [d0]; exact S3)
            rw [d0] at h
            cases bb with
            | false =>
              rw [if_pos (by decide +kernel)] at h
              exact skip k w13 _ _ (by omega) fm3 hB3 (fun q => Bool.noConfusion (d2.mpr ((VRg_i ⟨m2, m6⟩ hcl).mp q).2)) h
            | true =>
              rw [if_neg (by decide +kernel)] at h
              have hv : VRg (rmA w0 u) P y a b m c := (VRg_i ⟨m2, m6⟩ hcl).mpr ⟨hr, d2.mp rfl⟩
              have h := h _ rfl
              have f4 : FM [(147, 24)] [] w13 (sI w13 147 24 i8) := FM_sI S3 (by decide)
              have g24 : gI (sI w13 147 24 i8) 147 24 = i8 := gI_sI (SK_isF S3 (by decide +kernel))
              obtain ⟨wd, hwd⟩ : ∃ wd, wd = sI w13 147 24 i8 := ⟨_, rfl⟩
              rw [← hwd] at h f4 g24
              have S4 := f4.2.2.2
              have fm4 : FM rrF [158, 159] w0 wd := FM_trans fm3 (FM_mono f4 (by decide) (by intro p hp; cases hp))
              have e4 : al wd = al w0 := al_FM fm4 (by decide)
              have hB4 : SBr wd P i3 fe rk a b (VBf (rmA w0 u) P y a b m c) := SBr_fm hB3 f4 (by decide) (by simp)
              have hE4 : ∀ i, i < m → ((gA wd 158).getD i 0).toInt = elN a b m c i := fun i hi => by rw [FM_a f4 (by simp)]; exact hE i hi
              have fin : ∀ good : Int64, good.toInt = GR i3 fe rk a b m c → (if (gI wd 147 23) ≤ 0 then (PS X k 266 152 [.ref 147, .int i1, .int i2, .int i3, .int i4, .int i5, .long l6, pm_dead, .int i8, .int i9, .long good, pm_dead, u12] [] wd r w') else (if 0 < (lg_cmp good l6) then (PS X k 266 152 [.ref 147, .int i1, .int i2, .int i3, .int i4, .int i5, .long l6, pm_dead, .int i8, .int i9, .long good, pm_dead, u12] [] wd r w') else (PS X k 266 192 [.ref 147, .int i1, .int i2, .int i3, .int i4, .int i5, .long l6, pm_dead, .int i8, .int i9, .long good, pm_dead, u12] [] wd r w'))) → FM rrF [158, 159] w0 w' ∧ SBr w' P i3 fe rk a b (VRg (rmA w0 u) P y a b) ∧ (((gI w' 147 23).toInt = 0 ∧ r = some (.int 0)) ∨ (0 < (gI w' 147 23).toInt ∧ r = some (.int 1))) := by
                intro good hg hh
                have take : BSt (GR i3 fe rk a b) (fun m1 c1 => VBf (rmA w0 u) P y a b m c m1 c1 ∨ (m1 = m ∧ c1 = c)) m c → PS X k 266 152 [.ref 147, .int i1, .int i2, .int i3, .int i4, .int i5, .long l6, pm_dead, .int i8, .int i9, .long good, pm_dead, u12] [] wd r w' → FM rrF [158, 159] w0 w' ∧ SBr w' P i3 fe rk a b (VRg (rmA w0 u) P y a b) ∧ (((gI w' 147 23).toInt = 0 ∧ r = some (.int 0)) ∨ (0 < (gI w' 147 23).toInt ∧ r = some (.int 1))) := by
                  intro hb hh
                  obtain ⟨k', wz, v10, v12, hk, fz, z1, z2, hh⟩ := X152 S4 ⟨m2, m6⟩ h8 hh
                  have hb2 := BSt_cg (fun m' c' => evp m' c' hv) hb
                  exact (ih k' (by omega)).2 wz m (c + 1) good i8 _ _ _ (FM_trans fm4 (FM_mono fz (by decide) (by decide))) h8 m2 m6 e91 (by omega) (Or.inr ⟨m, c, hb2, ⟨m2, m6⟩, z1, fun i hi => ⟨by rw [z2 i hi]; exact hE4 i hi, hr.1 i hi⟩⟩) (fun m' c' q => by
                    obtain ⟨q1, q2⟩ := BSt_uq q hb2
                    rw [q1, q2]; exact hg) hh
                rcases hB4 with ⟨g1, g2⟩ | ⟨bm, bc, g1, g2, g3, g4⟩
                · rw [if_pos (show gI wd 147 23 ≤ 0 by rw [Int32.le_iff_toInt_le, g1, z32]; exact Int.le_refl _)] at hh
                  exact take (BSt_1 g2) hh
                · rw [if_neg (show ¬ gI wd 147 23 ≤ 0 by rw [Int32.le_iff_toInt_le, g3, z32]; omega)] at hh
                  have hl6 := hl bm bc g1
                  have pos := g1.1.2
                  by_cases cg : 0 < lg_cmp good l6
                  · rw [if_pos cg] at hh
                    rw [cmp_g, hg, hl6] at cg
                    exact take (BSt_n g1 (Or.inl cg)) hh
                  · rw [if_neg cg] at hh
                    rw [cmp_g, hg, hl6] at cg
                    have hb := BSt_o (m' := m) (c' := c) g1 (by unfold BTt; omega)
                    have hb2 := BSt_cg (fun m' c' => evp m' c' hv) hb
                    obtain ⟨k', hk, hh⟩ := X192 S4 hh
                    exact (ih k' (by omega)).2 wd m (c + 1) l6 i8 _ _ _ fm4 h8 m2 m6 e91 (by omega) (Or.inr ⟨bm, bc, hb2, g2, g3, g4⟩) (fun m' c' q => by
                      obtain ⟨q1, q2⟩ := BSt_uq q hb2
                      rw [q1, q2]; exact hl6) hh
              have l0 : (0 : Int64).toInt = 0 := by decide +kernel
              rcases hso with hs | hs | hs
              · rw [if_pos hs] at h
                exact fin 0 (by rw [l0]; unfold GR GSv; rw [if_neg (by rw [hs]; decide), if_neg (by rw [hs]; decide)]) h
              · rw [if_neg (by rw [hs]; decide), if_pos hs] at h
                obtain ⟨q25, w26, y26, h⟩ := h
                obtain ⟨c0, x27, c1, c2, c3, c4⟩ := F270 (E := elN a b m c) S4 hp hu (by rw [e4]; exact hfe) (by rw [g24]; exact h8) ⟨m2, m6⟩ hE4 el9 (fun i hi => hfb _ (hr.1 i hi)) y26
                have h := h _ c1 (by rw [c0]; exact S4)
                rw [c0] at h
                refine fin _ ?_ h
                rw [Int32.toInt_toInt64, zi_neg rfl (by omega) (by omega), c2]
                unfold GR GSv
                rw [if_pos hs]
                rfl
              · rw [if_neg (by rw [hs]; decide), if_neg (by rw [hs]; decide)] at h
                obtain ⟨q22, w23, y23, h⟩ := h
                obtain ⟨c0, x24, c1, c2⟩ := F271 (E := elN a b m c) S4 hp hu (by rw [e4]; exact hrk) h8 ⟨m2, m6⟩ hE4 el9 (fun i hi => hrb _ (hr.1 i hi)) y23
                have h := h _ c1 (by rw [c0]; exact S4)
                rw [c0] at h
                refine fin _ ?_ h
                rw [c2]
                unfold GR GSv
                rw [if_neg (by rw [hs]; decide), if_pos hs]
                rfl
end JLA
end
section
/-! ===== find, asked on both sides ===== -/
section JMA
variable {X : pm_X} {k k2 : Nat} {w0 w w1 w2 w3 w4 w5 w6 wj w' : pm_W} {r r2 q0 q1 q2 : Option Value} {p1 p2 p3 p4 p5 p6 i1 i2 i3 i4 i5 i6 i7 i8 i9 z z1 z2 so x : Int32} {i v j m c u P t s b d p q fx Q I J K T W N κ bm n : Nat} {l l6 l10 : Int64} {e g y : Int} {fe rk : Nat → Int} {E : Nat → Nat} {u9 u10 u12 : Value} {V : Nat → Nat → Prop} {R : Nat → Nat → Int} {a : Nat → Int32} {s1 t1 t2 : SN}
def feF (a : Nat → Int32) (u x : Nat) : Int := (a (694 + 132 * u + x)).toInt
def rkF (a : Nat → Int32) (u x : Nat) : Int := (a (703 + 132 * u + x)).toInt
theorem VA_f (h : VAa a) (hu : u < (a 0).toInt.toNat) : (∀ x, x < 9 → 0 ≤ feF a u x ∧ feF a u x ≤ 99) ∧ ∀ x, x < 9 → 0 ≤ rkF a u x ∧ rkF a u x ≤ 100 := by
  obtain ⟨g, hg, _, _, _, _, h4, h5, _⟩ := h.1 u hu
  unfold feF rkF
  refine ⟨fun x hx => ?_, fun x hx => ?_⟩
  · have q := h4 x hx
    rw [show 694 + 132 * u + x = 610 + 132 * u + (84 + x) by omega]
    exact q
  · have q := h5 x hx
    rw [show 703 + 132 * u + x = 610 + 132 * u + (93 + x) by omega]
    exact q
theorem VRg_c9 {R' : Nat → Nat → Int} {a b : Nat} (hP : P ≤ 9) (hR : ∀ i j, i < 9 → j < 9 → R i j = R' i j) : VRg R P y a b m c ↔ VRg R' P y a b m c := by
  have one : ∀ (R R' : Nat → Nat → Int), (∀ i j, i < 9 → j < 9 → R i j = R' i j) → VRg R P y a b m c → VRg R' P y a b m c := by
    rintro R R' hR ⟨h1, h2, h3, ⟨g1, g2, g3⟩, h4⟩
    have el : ∀ i, i < m → elN a b m c i < 9 := fun i hi => by have := g1 i hi; omega
    refine ⟨h1, h2, h3, ⟨g1, g2, fun i hi => by rw [← hR _ _ (el i (by omega)) (el (i + 1) hi)]; exact g3 i hi⟩, ?_⟩
    have e0 := el 0 (by omega)
    have q : R (elN a b m c (m - 1)) a = R' (elN a b m c (m - 1)) a := hR _ _ (el (m - 1) (by omega)) e0
    rw [← q]
    exact h4
  exact ⟨one R R' hR, one R' R (fun i j hi hj => (hR i j hi hj).symm)⟩
/-- the class's search for a want -/
theorem F133 (h3 : RL3 w) (f1 : FM [(33, 0), (33, 1), (33, 2)] [39, 40, 41] w w4) (hu : u < (al w 0).toInt.toNat) (a3 : CSt w4 33 (5 + 5 * u) (Pof (al w) u) s1.1 s1.2.1 s1.2.2.1 s1.2.2.2) (h4 : p4.toInt = κ) (hκ : κ < Wof (al w) u) (h : PS X k 133 0 [.ref 55, .ref 33, .int p4, .int p5] [] w4 r w') : FM slF [65, 66, 67] w4 w' ∧ SBw w' (Pof (al w) u) p5 (feF (al w) u) (rkF (al w) u) (wAf (al w) u κ) (wBf (al w) u κ) (VRg (fun i j => (rmI (Vof (al w) u) s1.1 i j).toInt) (Pof (al w) u) (wNf (al w) u κ) (wAf (al w) u κ) (wBf (al w) u κ)) ∧ (((gI w' 55 6).toInt = 0 ∧ r = some (.int 0)) ∨ (0 < (gI w' 55 6).toInt ∧ r = some (.int 1))) := by
  have hS := h3.1.1
  have S4 : SK w4 := f1.2.2.2
  have e9 : (9 : Int32).toInt = 9 := nine32
  obtain ⟨v1, v1', v3, v2, v4⟩ := VA_v h3.2 hu
  obtain ⟨x1, x2, x3⟩ := VA_w h3.2 hu
  obtain ⟨fb, rb⟩ := VA_f h3.2 hu
  obtain ⟨u1, g0, gw, _, _, g4, g5, g6⟩ := VT hS h3.1.2.1 hu
  obtain ⟨c1, c2, c3, c4⟩ := CVL h3 hu f1 a3
  obtain ⟨_, r4, r5, r6⟩ := VR S4 u1
  obtain ⟨y0, y0', y1, y1', y01, y2, y2', _⟩ := x3 κ hκ
  rw [c3] at c1
  cases k with
  | zero => exact (PS_0 h).elim
  | succ k =>
    obtain ⟨hc, h⟩ := U133_0 S4 h
    rw [c3, r4] at hc h
    obtain ⟨q2, w3, y3, h⟩ := h _ rfl
    have fc : FM [] [65] w4 (cpS w4 (7 + 5 * u) 65 0 0 9) := FM_cpS hc S4 (by decide)
    have cA := cpS_A hc (SK_isA S4 (by decide +kernel))
    obtain ⟨wa, hwa⟩ : ∃ wa, wa = cpS w4 (7 + 5 * u) 65 0 0 9 := ⟨_, rfl⟩
    rw [← hwa] at y3 fc cA
    have Sa := fc.2.2.2
    have l65 : (gA w4 65).length = 9 := SK_len S4 (a := 65) (n := 9) (by decide +kernel) (by decide)
    have l7 : (gA w4 (7 + 5 * u)).length = 9 := by
      have c : u = 0 ∨ u = 1 := by omega
      rcases c with rfl | rfl
      · exact SK_len S4 (a := 7) (n := 9) (by decide +kernel) (by decide)
      · exact SK_len S4 (a := 12) (n := 9) (by decide +kernel) (by decide)
    have hfe : ∀ p, p < Pof (al w) u → ((gA wa 65).getD p 0).toInt = feF (al w) u p ∧ 0 ≤ feF (al w) u p ∧ feF (al w) u p ≤ 1000 := by
      intro p hp
      have := fb p (by omega)
      refine ⟨?_, this.1, by omega⟩
      rw [cA, z32, e9, cpy_getF (by rw [l7]; decide) (by rw [l65]; decide), if_pos (by omega), FM_a f1 (by simp <;> omega)]
      show ((gA w (7 + 5 * u)).getD (0 + (p - 0)) 0).toInt = _
      rw [show 0 + (p - 0) = p by omega, g4 p (by omega)]
      rfl
    have hrk : ∀ p, p < Pof (al w) u → ((gA wa (5 + 5 * u + 3)).getD p 0).toInt = rkF (al w) u p ∧ 0 ≤ rkF (al w) u p ∧ rkF (al w) u p ≤ 100 := by
      intro p hp
      refine ⟨?_, rb p (by omega)⟩
      rw [show 5 + 5 * u + 3 = 8 + 5 * u by omega, FM_a fc (by simp <;> omega), FM_a f1 (by simp <;> omega), g5 p (by omega)]
      rfl
    have cell : ∀ c, c < 4 → (gA wa (5 + 5 * u + 4)).getD (4 * κ + c) 0 = wtP (al w) u κ c := fun c hc => by
      rw [show 5 + 5 * u + 4 = 9 + 5 * u by omega, FM_a fc (by simp <;> omega), FM_a f1 (by simp <;> omega), g6 _ (by omega)]
      unfold wtP
      rw [show 712 + 132 * u + (4 * κ + c) = 712 + 132 * u + 4 * κ + c by omega]
    obtain ⟨b1, b2, b3, b4⟩ := F134 (v := 5 + 5 * u) (κ := κ) (a := wAf (al w) u κ) (b := wBf (al w) u κ) (y := wNf (al w) u κ) Sa (by rw [FM_r fc (by simp)]; exact c3) (by omega) (okV_n u1) (by rw [FM_i fc (by simp)]; exact c1) v1 (by rw [FM_r fc (by simp), r5]; omega) (by rw [FM_r fc (by simp), r6]; omega) hfe hrk h4 (by omega) (by rw [cell 0 (by decide)]; unfold wAf; omega) (by rw [cell 1 (by decide)]; unfold wBf; omega) (by rw [cell 2 (by decide)]; rfl) (by unfold wAf; omega) (by unfold wBf; omega) (by unfold wAf wBf; omega) y3
    have hV : ∀ i j, i < 9 → j < 9 → (rmI (vcl wa (5 + 5 * u)) (dA wa 33) i j).toInt = (rmI (Vof (al w) u) s1.1 i j).toInt := fun i j hi hj => by
      have ed : dA wa 33 = s1.1 := by
        rw [show dA wa 33 = dA w4 33 from by funext q; unfold dA; rw [FM_a fc (by decide)]]
        exact a3.2.2.1
      rw [ed, rmI_cg (V := Vof (al w) u) (fun q hq => ?_) hi hj]
      rw [vcl_FMv S4 fc (okV_n u1) (by simp) (by simp) (by simp) (by simp <;> omega) (by simp <;> omega) (by simp <;> omega) (by simp <;> omega)]
      exact c4 q hq
    have hres : (((gI w3 55 6).toInt = 0 ∧ q2 = some (.int 0)) ∨ (0 < (gI w3 55 6).toInt ∧ q2 = some (.int 1))) := b4
    have S3 := b1.2.2.2
    have fin : ∀ x : Int32, q2 = some (.int x) → r = some (.int x) ∧ w' = w3 := fun x hx => h x hx S3
    have out : w' = w3 := by
      rcases hres with ⟨_, q⟩ | ⟨_, q⟩
      · exact (fin _ q).2
      · exact (fin _ q).2
    rw [out]
    refine ⟨FM_trans (FM_mono fc (by intro p hp; cases hp) (by decide)) (FM_mono b1 (fun _ h => h) (by decide)), SBw_cg (fun m c => VRg_c9 v1 hV) b3, ?_⟩
    rcases hres with ⟨q1, q⟩ | ⟨q1, q⟩
    · exact Or.inl ⟨q1, (fin _ q).1⟩
    · exact Or.inr ⟨q1, (fin _ q).1⟩
end JMA
end
section
/-! ===== find, asked on both sides ===== -/
section JNA
variable {X : pm_X} {k k2 : Nat} {w0 w w1 w2 w3 w4 w5 w6 w8 wj w' : pm_W} {r r2 q0 q1 q2 : Option Value} {p1 p2 p3 p4 p5 p6 i1 i2 i3 i4 i5 i6 i7 i8 i9 z z1 z2 so x : Int32} {i v j m c u P t s b d p q fx Q I J K T W N κ bm n : Nat} {l l6 l10 : Int64} {e g y : Int} {fe rk : Nat → Int} {E : Nat → Nat} {u9 u10 u12 : Value} {V : Nat → Nat → Prop} {R : Nat → Nat → Int} {a : Nat → Int32} {s1 t1 t2 : SN}
def okSo (x : Int32) : Prop := x = 0 ∨ x = 1 ∨ x = 2
theorem okSo_i : okSo x ↔ 0 ≤ x.toInt ∧ x.toInt ≤ 2 := by
  unfold okSo
  constructor
  · rintro (e | e | e)
    · rw [e, z32]; omega
    · rw [e, o32]; omega
    · rw [e, two32]; omega
  · rintro ⟨h1, h2⟩
    have c : x.toInt = 0 ∨ x.toInt = 1 ∨ x.toInt = 2 := by omega
    rcases c with e | e | e
    · exact Or.inl (Int32.toInt_inj.mp (by rw [e, z32]))
    · exact Or.inr (Or.inl (Int32.toInt_inj.mp (by rw [e, o32])))
    · exact Or.inr (Or.inr (Int32.toInt_inj.mp (by rw [e, two32])))
theorem F132 (hS : SK w) (h : PS X k 132 0 [.int p1] [] w r w') : w' = w ∧ ((okSo p1 ∧ r = some (.int 1)) ∨ (¬ okSo p1 ∧ r = some (.int 0))) := by
  unfold okSo
  cases k with
  | zero => exact (PS_0 h).elim
  | succ k =>
    have h := U132_0 hS h
    by_cases c0 : p1 = 0
    · rw [if_pos c0] at h
      exact ⟨h.2, Or.inl ⟨Or.inl c0, h.1⟩⟩
    · rw [if_neg c0] at h
      by_cases c1 : p1 = 1
      · rw [if_pos c1] at h
        exact ⟨h.2, Or.inl ⟨Or.inr (Or.inl c1), h.1⟩⟩
      · rw [if_neg c1] at h
        by_cases c2 : p1 = 2
        · rw [if_pos c2] at h
          exact ⟨h.2, Or.inl ⟨Or.inr (Or.inr c2), h.1⟩⟩
        · rw [if_neg c2] at h
          exact ⟨h.2, Or.inr ⟨fun q => by rcases q with q | q | q <;> contradiction, h.1⟩⟩
/-- the rings for a want of the loaded state -/
abbrev VWt (a : Nat → Int32) (u κ : Nat) (s : SN) : Nat → Nat → Prop := VRg (fun i j => (rmI (Vof a u) s.1 i j).toInt) (Pof a u) (wNf a u κ) (wAf a u κ) (wBf a u κ)
theorem F131 (h3 : RL3 w) (h : PS X k 131 0 [.ref 0, .int p1, .int p2, .int p3, .int p4, .int p5] [] w r w') : (¬ okSo p5 ∧ r = some (.int 0) ∧ w' = w) ∨ (okSo p5 ∧ ∃ (k' : Nat) (q1 : Option Value) (w4 : pm_W), PS X k' 98 0 [.ref 0, .int p1, .int p2, .int p3, pm_dead, pm_dead, pm_dead] [] w q1 w4 ∧ ((q1 = some (.int 0) ∧ r = some (.int 0) ∧ w' = w4) ∨ (q1 = some (.int 1) ∧ ∃ (u : Nat) (s1 : SN), LDR (al w) p1 p2 p3 (gAr w 33) u s1 ∧ CSt w4 33 (5 + 5 * u) (Pof (al w) u) s1.1 s1.2.1 s1.2.2.1 s1.2.2.2 ∧ ((¬ (0 ≤ p4.toInt ∧ p4.toInt < (Wof (al w) u : Nat)) ∧ r = some (.int 0) ∧ w' = w4) ∨ ∃ κ : Nat, p4.toInt = κ ∧ κ < Wof (al w) u ∧ FM slF [65, 66, 67] w4 w' ∧ SBw w' (Pof (al w) u) p5 (feF (al w) u) (rkF (al w) u) (wAf (al w) u κ) (wBf (al w) u κ) (VWt (al w) u κ s1) ∧ (((gI w' 55 6).toInt = 0 ∧ r = some (.int 0)) ∨ (0 < (gI w' 55 6).toInt ∧ r = some (.int 1))))))) := by
  have hS := h3.1.1
  cases k with
  | zero => exact (PS_0 h).elim
  | succ k =>
    obtain ⟨qa, wa, ya, h⟩ := U131_0 hS h
    obtain ⟨ea, alt⟩ := F132 hS ya
    rcases alt with ⟨c, ra⟩ | ⟨c, ra⟩
    · have h := h _ ra (by rw [ea]; exact hS)
      rw [if_neg (by decide +kernel), ea] at h
      refine Or.inr ⟨c, ?_⟩
      obtain ⟨q1, w4, zz, h⟩ := h
      obtain ⟨f1, alt⟩ := F98 h3 zz
      have S4 : SK w4 := f1.2.2.2
      refine ⟨k, q1, w4, zz, ?_⟩
      rcases alt with ⟨u, s1, a1, a2, a3⟩ | ⟨a1, _⟩
      · have h := h _ a1 S4
        rw [if_neg (by decide +kernel)] at h
        refine Or.inr ⟨a1, u, s1, a2, a3, ?_⟩
        have hu := a2.2.1
        obtain ⟨x1, x2, x3⟩ := VA_w h3.2 hu
        obtain ⟨c1, c2, c3, c4⟩ := CVL h3 hu f1 a3
        obtain ⟨u1, g0, gw, _⟩ := VT hS h3.1.2.1 hu
        rw [c3] at h
        have h := use_p S4 h (fun _ _ y => F64 (P := Wof (al w) u) S4 (by rw [FM_i f1 (by simp <;> omega), gw]; exact x1) y)
        by_cases cw : 0 ≤ p4.toInt ∧ p4.toInt < (Wof (al w) u : Nat)
        · have h := ifb_t cw h
          obtain ⟨κ, hκ⟩ : ∃ κ : Nat, p4.toInt = κ := ⟨p4.toInt.toNat, by omega⟩
          obtain ⟨q10, w11, y11, h⟩ := h
          obtain ⟨b1, b2, b3⟩ := F133 h3 f1 hu a3 hκ (by omega) y11
          have S11 := b1.2.2.2
          refine Or.inr ⟨κ, hκ, by omega, ?_⟩
          rcases b3 with ⟨g1, g2⟩ | ⟨g1, g2⟩
          · have h := h _ g2 S11
            rw [h.2]
            exact ⟨b1, b2, Or.inl ⟨g1, h.1⟩⟩
          · have h := h _ g2 S11
            rw [h.2]
            exact ⟨b1, b2, Or.inr ⟨g1, h.1⟩⟩
        · have h := ifb_f cw h
          exact Or.inl ⟨cw, h.1, h.2⟩
      · have h := h _ a1 S4
        rw [if_pos rfl] at h
        exact Or.inl ⟨a1, h.1, h.2⟩
    · have h := h _ ra (by rw [ea]; exact hS)
      rw [if_pos rfl, ea] at h
      exact Or.inl ⟨c, h.1, h.2⟩
theorem F266 (hS : SK w) (hV : VAa (al w)) (hu : u < (al w 0).toInt.toNat) (u1 : u ≤ 1) (hp : p1.toInt = (610 + 132 * u : Nat)) (hκ : p2.toInt = κ) (hκ7 : κ < Wof (al w) u) (hso : okSo p3) (hfe : ∀ x : Nat, x < 9 → fe x = if (x : Int) = p4.toInt then p5.toInt else (al w (694 + 132 * u + x)).toInt) (hfb : ∀ x, x < Pof (al w) u → 0 ≤ fe x ∧ fe x ≤ 1000) (h : PS X k 266 0 [.ref 147, .int p1, .int p2, .int p3, .int p4, .int p5, pm_dead, pm_dead, pm_dead, pm_dead, pm_dead, pm_dead, pm_dead] [] w r w') : FM rrF [158, 159] w w' ∧ SBr w' (Pof (al w) u) p3 fe (rkF (al w) u) (wAf (al w) u κ) (wBf (al w) u κ) (VRg (rmA w u) (Pof (al w) u) (wNf (al w) u κ) (wAf (al w) u κ) (wBf (al w) u κ)) ∧ (((gI w' 147 23).toInt = 0 ∧ r = some (.int 0)) ∨ (0 < (gI w' 147 23).toInt ∧ r = some (.int 1))) := by
  obtain ⟨v1, v1', v3, v2, v4⟩ := VA_v hV hu
  obtain ⟨x1, x2, x3⟩ := VA_w hV hu
  obtain ⟨fb, rb⟩ := VA_f hV hu
  obtain ⟨y0, y0', y1, y1', y01, y2, y2', _⟩ := x3 κ hκ7
  cases k with
  | zero => exact (PS_0 h).elim
  | succ k =>
    have h := U266_0 hS h _ rfl
    have f1 : FM rrF [158, 159] w (sI w 147 23 0) := FM_sI hS (by decide)
    have g1 : gI (sI w 147 23 0) 147 23 = 0 := gI_sI (SK_isF hS (by decide +kernel))
    have e1 : al (sI w 147 23 0) = al w := al_FM f1 (by decide)
    have er := rmA_fm (u := u) f1 (by decide) (by decide)
    have em : ∀ m c, ¬ VBf (rmA (sI w 147 23 0) u) (Pof (al w) u) (wNf (al w) u κ) (wAf (al w) u κ) (wBf (al w) u κ) 2 0 m c := fun m c q => by
      have := q.1.1
      have := q.2
      omega
    obtain ⟨b1, b2, b3⟩ := (F266_l (fe := fe) (rk := rkF (al w) u) (a := wAf (al w) u κ) (b := wBf (al w) u κ) (y := wNf (al w) u κ) f1.2.2.2 hp u1 (by rw [e1]; exact v3) v1 hκ (by omega) (by rw [e1]; unfold wAf; omega) (by rw [e1]; unfold wBf; omega) (by rw [e1]; rfl) (by unfold wAf; omega) (by unfold wBf; omega) hso (by rw [e1]; exact hfe) (by rw [e1]; exact fun x _ => rfl) hfb (fun x hx => rb x (by omega)) k).1 _ 2 0 2 _ _ _ (FM_refl f1.2.2.2) two32 (Nat.le_refl 2) (by decide) (Or.inl ⟨by rw [g1, z32], em⟩) (fun m c q => absurd q.1 (em m c)) h
    rw [er] at b2
    exact ⟨FM_trans f1 b1, b2, b3⟩
/-- what both found -/
theorem both (hw : SBw w P so fe rk b d V) (hr : SBr w2 P so fe rk b d V) : ((gI w 55 6).toInt = 0 ∧ (gI w2 147 23).toInt = 0) ∨ ∃ m c : Nat, (2 ≤ m ∧ m ≤ 6) ∧ (gI w 55 6).toInt = m ∧ (gI w2 147 23).toInt = m ∧ (∀ i, i < m → ((gA w 67).getD i 0).toInt = elN b d m c i ∧ elN b d m c i < P) ∧ (∀ i, i < m → ((gA w2 159).getD i 0).toInt = elN b d m c i) ∧ (gI w 55 7).toInt = cstN fe b d m c m ∧ (gL w 55 8).toInt = chN rk b d m c m := by
  rcases hw with ⟨a1, a2⟩ | ⟨m, c, a1, a2, a3, a4, a5, a6⟩
  · rcases hr with ⟨b1, b2⟩ | ⟨m', c', b1, b2, b3, b4⟩
    · exact Or.inl ⟨a1, b1⟩
    · exact absurd b1.1 (a2 m' c')
  · rcases hr with ⟨b1, b2⟩ | ⟨m', c', b1, b2, b3, b4⟩
    · exact absurd a1.1 (b2 m c)
    · obtain ⟨e1, e2⟩ := BSt_uq a1 b1
      rw [← e1, ← e2] at b4
      exact Or.inr ⟨m, c, a2, a3, by rw [b3, e1], a4, fun i hi => (b4 i hi).1, a5, a6⟩
end JNA
end
section
/-! ===== stands ===== -/
section JPA
variable {X : pm_X} {k k2 : Nat} {w0 w w1 w2 w3 w4 w5 w6 w8 wj w' : pm_W} {r r2 q0 q1 q2 : Option Value} {p1 p2 p3 p4 p5 p6 i1 i2 i3 i4 i5 i6 i7 i8 i9 z z1 z2 so x : Int32} {i v j m c u P t s b d p q fx Q I J K T W N κ bm n : Nat} {l l6 l10 : Int64} {e g y : Int} {fe rk : Nat → Int} {E : Nat → Nat} {u9 u10 u12 : Value} {V : Nat → Nat → Prop} {R : Nat → Nat → Int} {a : Nat → Int32} {s1 t1 t2 : SN}
theorem F272_50 (hS : SK w) (h1 : i1.toInt = u) (u1 : u ≤ 1) (hm : (gI w 147 23).toInt = m) (hm6 : 2 ≤ m ∧ m ≤ 6) (hE : ∀ i, i < m → ((gA w 159).getD i 0).toInt = E i) (h9 : ∀ i, i < m → E i < 9) (hb : ∀ x, x < 9 → 0 ≤ rkF (al w) u x ∧ rkF (al w) u x ≤ 100) : ∀ (k t : Nat) (l7 : Int64) (i9 : Int32), i9.toInt = t → t ≤ m → l7.toInt = (if i6 = 0 then prI (fun i => 100 - rkF (al w) u (E i)) t else (100 : Int) ^ t) → PS X k 272 50 [.ref 147, .int i1, .int i2, .int i3, .int i4, .int i5, .int i6, .long l7, pm_dead, .int i9] [] w r w' → w' = w ∧ ∃ l : Int64, r = some (.long l) ∧ l.toInt = (if i6 = 0 then prI (fun i => 100 - rkF (al w) u (E i)) m else (100 : Int) ^ m) := by
  have e93 : (93 : Int32).toInt = 93 := by decide +kernel
  have e100 : (100 : Int32).toInt = 100 := by decide +kernel
  intro k
  induction k with
  | zero => intro t l7 i9 _ _ _ h; exact (PS_0 h).elim
  | succ k ih =>
    intro t l7 i9 h9' ht hl h
    have h := U272_50 hS h
    by_cases c : gI w 147 23 ≤ i9
    · rw [if_pos c] at h
      rw [Int32.le_iff_toInt_le, hm, h9'] at c
      exact ⟨h.2, l7, h.1, by rw [hl, show t = m by omega]⟩
    · rw [if_neg c] at h
      rw [Int32.le_iff_toInt_le, hm, h9'] at c
      have htm : t < m := by omega
      have e1 : (i9 + 1).toInt = ((t + 1 : Nat) : Int) := by rw [zi_inc (n := 40) (by omega) (by omega), h9']; rfl
      have p12 := pow100 (t + 1) (by omega)
      by_cases c6 : i6 = 0
      · rw [if_pos c6] at h hl
        have h := use_p hS h (fun _ _ y => F217v hS h1 u1 y)
        obtain ⟨_, _, h⟩ := h
        have ev : (aG w 159 i9).toInt = E t := by rw [aG_n h9']; exact hE t htm
        have e9 := h9 t htm
        have rb := hb (E t) e9
        have hp := plV h1 u1
        have ev2 : (aG w 148 ((610 + 132 * i1 + 93) + aG w 159 i9)).toInt = rkF (al w) u (E t) := by
          rw [aG_n (m := 703 + 132 * u + E t) (by rw [zi_add (zi_add hp e93 (by omega) (by omega)) ev (by omega) (by omega)]; omega)]
          rfl
        have v4 : ((100 - aG w 148 ((610 + 132 * i1 + 93) + aG w 159 i9)).toInt64).toInt = 100 - rkF (al w) u (E t) := by rw [Int32.toInt_toInt64, zi_sub e100 ev2 (by omega) (by omega)]
        have pb := pr_b (f := fun i => 100 - rkF (al w) u (E i)) (m := m) (fun i hi => by have := hb (E i) (h9 i hi); show 0 ≤ 100 - rkF (al w) u (E i) ∧ 100 - rkF (al w) u (E i) ≤ 100; omega) (t + 1) (by omega)
        have s1 : prI (fun i => 100 - rkF (al w) u (E i)) (t + 1) = prI (fun i => 100 - rkF (al w) u (E i)) t * (100 - rkF (al w) u (E t)) := rfl
        rw [s1] at pb
        exact ih (t + 1) _ _ e1 (by omega) (by rw [if_pos c6, s1]; exact lg_mul hl v4 pb.1 (Int.le_trans pb.2 p12.1)) h
      · rw [if_neg c6] at h hl
        rw [Int.pow_succ] at p12
        exact ih (t + 1) _ _ e1 (by omega) (by rw [if_neg c6, Int.pow_succ]; exact lg_mul hl l100_64 (by omega) p12.1) h
theorem RC_17 (h3 : RL3 w) (h1 : PS X k 139 0 [.ref 0, .int p1, .int p2, .int p3, .int p4, .int p5, .int p6] [] w r w1) (h2 : PS X k2 272 0 [.ref 147, .int p1, .int p2, .int p3, .int p4, .int p5, .int p6, pm_dead, pm_dead, pm_dead] [] w1 r2 w2) : r2 = r := by
  have hS := h3.1.1
  have e10 : (10 : Int32).toInt = 10 := ten32
  cases k with
  | zero => exact (PS_0 h1).elim
  | succ k =>
    cases k2 with
    | zero => exact (PS_0 h2).elim
    | succ k2 =>
      obtain ⟨q1, w3, z, h1⟩ := U139_0 hS h1
      have no : ∀ w9, SK w9 → q1 = some (.int 0) → w3 = w9 → r = some (.long (-1)) ∧ w1 = w9 := by
        intro w9 S9 hq hw
        have h1 := h1 _ hq (by rw [hw]; exact S9)
        rw [if_pos rfl, hw] at h1
        exact h1
      rcases F131 h3 z with ⟨ns, rq, ew⟩ | ⟨os, k', q4, w4, zz, alt⟩
      · obtain ⟨rr, ww⟩ := no w hS rq ew
        rw [ww] at h2
        have h2 := use_p hS (U272_0 hS h2) (fun _ _ z => F199 hS z)
        rw [isI_t z32 two32] at h2
        have h2 := ifb_f (fun q => ns (okSo_i.mpr q)) h2
        rw [h2.1, rr]
      · obtain ⟨f1, _⟩ := F98 h3 zz
        have S4 : SK w4 := f1.2.2.2
        have ea := FM_al f1
        -- the reference, behind the sort
        have ref : ∀ w9, SK w9 → al w9 = al w → w1 = w9 → ∃ (q6 : Option Value) (w6 : pm_W), PS X k2 265 0 [.ref 147, .int p1, .int p2, .int p3, .int p4] [] w9 q6 w6 ∧ (q6 = some (.int 0) → SK w6 → r2 = some (.long (-1))) ∧ (q6 = some (.int 1) → SK w6 → ∀ u : Nat, p1.toInt = u → u ≤ 1 → ∃ (r10 : Option Value) (w11 : pm_W), PS X k2 266 0 [.ref 147, .int (610 + 132 * p1), .int p4, .int p5, .int (-1), .int 0, pm_dead, pm_dead, pm_dead, pm_dead, pm_dead, pm_dead, pm_dead] [] w6 r10 w11 ∧ (∀ x12 : Int32, r10 = some (.int x12) → SK w11 → (if x12 = 0 then (r2 = some (.long (-1)) ∧ w2 = w11) else (PS X k2 272 50 [.ref 147, .int p1, .int p2, .int p3, .int p4, .int p5, .int p6, .long 1, pm_dead, .int 0] [] w11 r2 w2)))) := by
          intro w9 S9 e9 hw
          rw [hw] at h2
          have h2 := use_p S9 (U272_0 S9 h2) (fun _ _ z => F199 S9 z)
          rw [isI_t z32 two32] at h2
          have h2 := ifb_t (okSo_i.mp os) h2
          obtain ⟨q6, w6, y6, h2⟩ := h2
          refine ⟨q6, w6, y6, fun hq S6 => ?_, fun hq S6 u hu u1 => ?_⟩
          · have h2 := h2 _ hq S6
            rw [if_pos rfl] at h2
            exact h2.1
          · have h2 := h2 _ hq S6
            rw [if_neg (by decide +kernel)] at h2
            exact use_p S6 h2 (fun _ _ y => F217v S6 hu u1 y)
        rcases alt with ⟨a1, b1, b2⟩ | ⟨a1, u, s1, a2, a3, ⟨b1, b2, b3⟩ | ⟨κ, hκ, hκW, f5, hb, hres⟩⟩
        · obtain ⟨rr, ww⟩ := no w4 S4 b1 b2
          obtain ⟨q6, w6, y6, g0, _⟩ := ref w4 S4 ea ww
          obtain ⟨S6, e6, alt2⟩ := F265 h3 zz S4 ea y6
          rcases alt2 with ⟨_, x⟩ | ⟨u, t1, t2, x, _⟩
          · rw [rr, g0 x S6]
          · rw [a1] at x; exact absurd x.symm i10
        · obtain ⟨rr, ww⟩ := no w4 S4 b2 b3
          obtain ⟨q6, w6, y6, g0, _⟩ := ref w4 S4 ea ww
          obtain ⟨S6, e6, alt2⟩ := F265 h3 zz S4 ea y6
          rcases alt2 with ⟨_, x⟩ | ⟨u', t1, t2, _, hLD, x⟩
          · rw [rr, g0 x S6]
          · have eu : u' = u := by have := hLD.1; have := a2.1; omega
            rw [eu] at x
            rw [decide_eq_false b1] at x
            rw [rr, g0 x S6]
        · have S3 := f5.2.2.2
          have hu := a2.2.1
          obtain ⟨fb, rb⟩ := VA_f h3.2 hu
          have e3 : al w3 = al w := by rw [al_FM f5 (by decide), ea]
          -- the class's world behind the call
          have hw1 : w1 = w3 := by
            rcases hres with ⟨_, g2⟩ | ⟨g1, g2⟩
            · exact (no w3 S3 g2 rfl).2
            · have h1 := h1 _ g2 S3
              rw [if_neg (by decide +kernel)] at h1
              by_cases c0 : p6 = 0
              · rw [if_pos c0] at h1; exact h1.2
              · rw [if_neg c0] at h1
                obtain ⟨q4, w5, y5, h1⟩ := h1
                have hm := hb
                rcases hm with ⟨g, _⟩ | ⟨m, c, _, hm, n1, _⟩
                · omega
                · obtain ⟨l, l1, l2, l3⟩ := F138 (t := m) S3 n1 hm.2 y5
                  have h1 := h1 _ l2 (by rw [l3]; exact S3)
                  rw [h1.2, l3]
          obtain ⟨q6, w6, y6, _, g1⟩ := ref w3 S3 e3 hw1
          obtain ⟨S6, e6, alt2⟩ := F265 h3 zz S3 e3 y6
          rcases alt2 with ⟨x, _⟩ | ⟨u', t1, t2, _, hLD, x⟩
          · rw [a1] at x; exact absurd x i10
          · have eu : u' = u := by have := hLD.1; have := a2.1; omega
            subst eu
            obtain ⟨d3, d4, d5, d6, d7, d8, d9⟩ := id hLD
            rw [decide_eq_true (show 0 ≤ p4.toInt ∧ p4.toInt < (Wof (al w) u' : Nat) by omega)] at x
            obtain ⟨q8, w8, y8, h2⟩ := g1 x S6 u' d3 d5
            have ed : dR w6 = s1.1 := by
              have x1 : dA w4 33 = t1.1 := d7.2.2.1
              rw [show dR w6 = t2.1 from d8.1, d6.1, ← x1]
              exact a3.2.2.1
            have era : rmA w6 u' = fun i j => (rmI (Vof (al w) u') s1.1 i j).toInt := by
              funext i j
              unfold rmA
              rw [ed, e6]
              rfl
            obtain ⟨v1, _⟩ := VA_v h3.2 hu
            obtain ⟨f8, hr, hres2⟩ := F266 (fe := feF (al w) u') S6 (by rw [e6]; exact h3.2) (by rw [e6]; exact hu) d5 (plV d3 d5) hκ (by rw [e6]; exact hκW) os (fun x _ => by rw [if_neg (by rw [m1i]; omega), e6]; rfl) (fun x hx => by rw [e6] at hx; have := fb x (by omega); omega) y8
            rw [era, e6] at hr
            have S8 := f8.2.2.2
            have e8 : al w8 = al w := by rw [al_FM f8 (by decide), e6]
            rcases both hb hr with ⟨n1, n2⟩ | ⟨m, c, hm, n1, n2, n3, n4, n5, n6⟩
            · have rq : q1 = some (.int 0) := by
                rcases hres with ⟨_, g⟩ | ⟨g, _⟩
                · exact g
                · omega
              have rq2 : q8 = some (.int 0) := by
                rcases hres2 with ⟨_, g⟩ | ⟨g, _⟩
                · exact g
                · omega
              have h2 := h2 _ rq2 S8
              rw [if_pos rfl] at h2
              rw [h2.1, (no w3 S3 rq rfl).1]
            · have rq : q1 = some (.int 1) := by
                rcases hres with ⟨g, _⟩ | ⟨_, g⟩
                · omega
                · exact g
              have rq2 : q8 = some (.int 1) := by
                rcases hres2 with ⟨g, _⟩ | ⟨_, g⟩
                · omega
                · exact g
              have h1 := h1 _ rq S3
              rw [if_neg (by decide +kernel)] at h1
              have h2 := h2 _ rq2 S8
              rw [if_neg (by decide +kernel)] at h2
              obtain ⟨_, lz, o1, o2⟩ := F272_50 (E := elN (wAf (al w) u' κ) (wBf (al w) u' κ) m c) S8 d3 d5 n2 hm n4 (fun i hi => by have := (n3 i hi).2; omega) (by rw [e8]; exact rb) k2 0 1 0 z32 (Nat.zero_le _) (by rw [l1_64]; split <;> rfl) h2
              rw [e8] at o2
              by_cases c0 : p6 = 0
              · rw [if_pos c0] at h1 o2
                rw [h1.1, o1, Int64.toInt_inj.mp (o2.trans n6.symm)]
              · rw [if_neg c0] at h1 o2
                obtain ⟨q4, w5, y5, h1⟩ := h1
                obtain ⟨l, l1, l2, l3⟩ := F138 (t := m) S3 n1 hm.2 y5
                have h1 := h1 _ l2 (by rw [l3]; exact S3)
                rw [h1.1, o1, Int64.toInt_inj.mp (o2.trans l1.symm)]
end JPA
end
section
/-! ===== state: sums over debts, rooms, couples ===== -/
section JZA
variable {X : pm_X} {k k2 : Nat} {w0 w w1 w2 w3 w4 w5 wj w' : pm_W} {r r2 q0 q1 q2 : Option Value} {p1 p2 p3 p4 p5 p i1 i2 i3 i4 i5 i6 i7 i8 z z1 z2 x n : Int32} {a i v j m c u P t s b d q N K : Nat} {y : Int} {D D' V V' E : Nat → Int32} {G G' G1 G2 : Nat → Int32} {g g' : Nat → Nat → Int32} {f h : Nat → Int} {s1 t1 t2 : SN} {M : Int32}
def f32 (D : Nat → Int32) : Nat → Int32
  | 0 => 0
  | n + 1 => f32 D n + D n
/-! nobody owes himself -/
/-! netted -/
end JZA
end
