/-! ===== consider ===== -/
section JGA
variable {X : pm_X} {k k2 : Nat} {w0 w w1 w2 w3 w4 w5 wj w' : pm_W} {r r2 q0 q1 q2 : Option Value} {p1 p2 p3 p4 p5 i1 i2 i3 i4 i5 i6 i7 i8 z z1 z2 so x : Int32} {i v j m c m' c' u P t s a b Q I J K T p W N κ bm n : Nat} {l : Int64} {e g y : Int} {f fe rk : Nat → Int} {V : Nat → Nat → Prop} {R : Nat → Nat → Int}
def cstN (fe : Nat → Int) (a b m c t : Nat) : Int := suI (fun i => if 2 ≤ i then fe (elN a b m c i) else 0) t
def prI (f : Nat → Int) : Nat → Int
  | 0 => 1
  | n + 1 => prI f n * f n
def chN (rk : Nat → Int) (a b m c t : Nat) : Int := prI (fun i => 100 - rk (elN a b m c i)) t
def GR (so : Int32) (fe rk : Nat → Int) (a b m c : Nat) : Int := GSv so (cstN fe a b m c m) (chN rk a b m c m) m
theorem cst_b (h : ∀ i, i < m → 0 ≤ fe (elN a b m c i) ∧ fe (elN a b m c i) ≤ 1000) : ∀ t, t ≤ m → 0 ≤ cstN fe a b m c t ∧ cstN fe a b m c t ≤ 1000 * t := by
  intro t
  induction t with
  | zero => intro _; exact ⟨Int.le_refl _, Int.le_refl _⟩
  | succ t ih =>
    intro ht
    have q := ih (by omega)
    have q2 := h t (by omega)
    show 0 ≤ cstN fe a b m c t + (if 2 ≤ t then fe (elN a b m c t) else 0) ∧ cstN fe a b m c t + (if 2 ≤ t then fe (elN a b m c t) else 0) ≤ 1000 * ((t + 1 : Nat) : Int)
    split <;> omega
theorem ch_b (h : ∀ i, i < m → 0 ≤ rk (elN a b m c i) ∧ rk (elN a b m c i) ≤ 100) : ∀ t, t ≤ m → 0 ≤ chN rk a b m c t ∧ chN rk a b m c t ≤ (100 : Int) ^ t := by
  intro t
  induction t with
  | zero => intro _; exact ⟨by show (0 : Int) ≤ 1; omega, Int.le_refl _⟩
  | succ t ih =>
    intro ht
    obtain ⟨q0, q1⟩ := ih (by omega)
    have q2 := h t (by omega)
    show 0 ≤ chN rk a b m c t * (100 - rk (elN a b m c t)) ∧ chN rk a b m c t * (100 - rk (elN a b m c t)) ≤ (100 : Int) ^ (t + 1)
    refine ⟨Int.mul_nonneg q0 (by omega), ?_⟩
    rw [Int.pow_succ]
    exact Int.mul_le_mul q1 (by omega) (by omega) (Int.le_of_lt (Int.pow_pos (by decide)))
theorem ch_6 (h : ∀ i, i < m → 0 ≤ rk (elN a b m c i) ∧ rk (elN a b m c i) ≤ 100) (hm : m ≤ 6) : 0 ≤ chN rk a b m c m ∧ chN rk a b m c m * (100 : Int) ^ (6 - m) ≤ 1000000000000 := by
  obtain ⟨q0, q1⟩ := ch_b h m (Nat.le_refl m)
  refine ⟨q0, ?_⟩
  have q2 := Int.mul_le_mul_of_nonneg_right q1 (Int.le_of_lt (pow100 (6 - m) (by omega)).2)
  rw [← Int.pow_add, show m + (6 - m) = 6 by omega] at q2
  exact Int.le_trans q2 (by decide)
/-- what the search looks at -/
def SRC (w : pm_W) (v P : Nat) (y : Int) (so : Int32) (fe rk : Nat → Int) : Prop := gR w 55 0 = 33 ∧ gR w 33 0 = v ∧ v < 30 ∧ (gI w v 0).toInt = P ∧ P ≤ 9 ∧ gR w v 5 = v + 3 ∧ gI w 55 1 = so ∧ (gI w 55 2).toInt = y ∧ (∀ p, p < P → ((gA w 65).getD p 0).toInt = fe p ∧ 0 ≤ fe p ∧ fe p ≤ 1000) ∧ ∀ p, p < P → ((gA w (v + 3)).getD p 0).toInt = rk p ∧ 0 ≤ rk p ∧ rk p ≤ 100
theorem SRC_fm {fs : List (Nat × Nat)} {as : List Nat} (h : SRC w v P y so fe rk) (f : FM fs as w w') (h1 : ∀ p, p ∈ fs → p.1 = 55 ∧ 6 ≤ p.2) (h2 : ∀ a, a ∈ as → 66 ≤ a) : SRC w' v P y so fe rk := by
  obtain ⟨a1, a2, a3, a4, a5, a6, a7, a8, a9, a10⟩ := h
  have n1 : ∀ q c, q ≠ 55 → (q, c) ∉ fs := fun q c hq hm => hq (h1 _ hm).1
  have n2 : ∀ c, c < 6 → (55, c) ∉ fs := fun c hc hm => by have := (h1 _ hm).2; omega
  have n3 : ∀ q, q < 66 → q ∉ as := fun q hq hm => by have := h2 _ hm; omega
  refine ⟨by rw [FM_r f (n2 0 (by decide))]; exact a1, by rw [FM_r f (n1 33 0 (by decide))]; exact a2, a3, by rw [FM_i f (n1 v 0 (by omega))]; exact a4, a5, by rw [FM_r f (n1 v 5 (by omega))]; exact a6, by rw [FM_i f (n2 1 (by decide))]; exact a7, by rw [FM_i f (n2 2 (by decide))]; exact a8, fun p hp => ?_, fun p hp => ?_⟩
  · rw [FM_a f (n3 65 (by decide))]; exact a9 p hp
  · rw [FM_a f (n3 (v + 3) (by omega))]; exact a10 p hp
/-- the best of those seen -/
def SBw (w : pm_W) (P : Nat) (so : Int32) (fe rk : Nat → Int) (a b : Nat) (V : Nat → Nat → Prop) : Prop := ((gI w 55 6).toInt = 0 ∧ ∀ m c, ¬ V m c) ∨ ∃ m c : Nat, BSt (GR so fe rk a b) V m c ∧ (2 ≤ m ∧ m ≤ 6) ∧ (gI w 55 6).toInt = m ∧ (∀ i, i < m → ((gA w 67).getD i 0).toInt = elN a b m c i ∧ elN a b m c i < P) ∧ (gI w 55 7).toInt = cstN fe a b m c m ∧ (gL w 55 8).toInt = chN rk a b m c m
theorem SBw_cg {V' : Nat → Nat → Prop} (h : ∀ m c, V m c ↔ V' m c) (hB : SBw w P so fe rk a b V) : SBw w P so fe rk a b V' := by
  rcases hB with ⟨h1, h2⟩ | ⟨m, c, h1, h2⟩
  · exact Or.inl ⟨h1, fun m c q => h2 m c ((h m c).mpr q)⟩
  · exact Or.inr ⟨m, c, BSt_cg h h1, h2⟩
theorem SBw_fm {fs : List (Nat × Nat)} {as : List Nat} (hB : SBw w P so fe rk a b V) (f : FM fs as w w') (h1 : (55, 6) ∉ fs ∧ (55, 7) ∉ fs ∧ (55, 8) ∉ fs) (h2 : 67 ∉ as) : SBw w' P so fe rk a b V := by
  unfold SBw
  rw [FM_i f h1.1, FM_i f h1.2.1, FM_l f h1.2.2, FM_a f h2]
  exact hB
theorem l66 (hS : SK w) : (gA w 66).length = 6 := SK_len hS (a := 66) (n := 6) (by decide +kernel) (by decide)
theorem l67 (hS : SK w) : (gA w 67).length = 6 := SK_len hS (a := 67) (n := 6) (by decide +kernel) (by decide)
/-- the best is what stands on the path -/
theorem setB (hS : SK w) (hm : 2 ≤ m ∧ m ≤ 6) (hel : ∀ i, i < m → elN a b m c i < P) (hp : ∀ i, i < m → ((gA w 66).getD i 0).toInt = elN a b m c i) (h1 : i1.toInt = m) (h2 : i2.toInt = cstN fe a b m c m) (h3 : l.toInt = chN rk a b m c m) (hV : BSt (GR so fe rk a b) V m c) (hc : cpI (sL (sI (sI w 55 6 i1) 55 7 i2) 55 8 l) 66 67 0 0 i1) : FM [(55, 6), (55, 7), (55, 8)] [67] w (cpS (sL (sI (sI w 55 6 i1) 55 7 i2) 55 8 l) 66 67 0 0 i1) ∧ SBw (cpS (sL (sI (sI w 55 6 i1) 55 7 i2) 55 8 l) 66 67 0 0 i1) P so fe rk a b V := by
  have f1 : FM [(55, 6), (55, 7), (55, 8)] [67] w (sI w 55 6 i1) := FM_sI hS (by decide)
  have S1 := f1.2.2.2
  have f2 : FM [(55, 6), (55, 7), (55, 8)] [67] (sI w 55 6 i1) (sI (sI w 55 6 i1) 55 7 i2) := FM_sI S1 (by decide)
  have S2 := f2.2.2.2
  have f3 : FM [(55, 6), (55, 7), (55, 8)] [67] (sI (sI w 55 6 i1) 55 7 i2) (sL (sI (sI w 55 6 i1) 55 7 i2) 55 8 l) := FM_sL S2 (by decide)
  have S3 := f3.2.2.2
  have fc : FM [] [67] (sL (sI (sI w 55 6 i1) 55 7 i2) 55 8 l) (cpS (sL (sI (sI w 55 6 i1) 55 7 i2) 55 8 l) 66 67 0 0 i1) := FM_cpS hc S3 (by decide)
  have f13 := FM_trans f1 (FM_trans f2 f3)
  refine ⟨FM_trans f13 (FM_mono fc (by intro p hp; cases hp) (by decide)), Or.inr ⟨m, c, hV, hm, ?_, fun i hi => ⟨?_, hel i hi⟩, ?_, ?_⟩⟩
  · rw [FM_i fc (by simp), gI_sL_ne (by decide), gI_sI_ne (by decide), gI_sI (SK_isF hS (by decide +kernel))]
    exact h1
  · rw [cpS_A hc (SK_isA S3 (by decide +kernel)), cpy_getF (by rw [z32, h1, l66 S3]; omega) (by rw [z32, h1, l67 S3]; omega), z32, h1, if_pos (by omega), FM_a f13 (by decide)]
    show ((gA w 66).getD (0 + (i - 0)) 0).toInt = _
    rw [show 0 + (i - 0) = i by omega]
    exact hp i hi
  · rw [FM_i fc (by simp), gI_sL_ne (by decide), gI_sI (SK_isF S1 (by decide +kernel))]
    exact h2
  · rw [FM_l fc (by simp), gL_sL (SK_isL S2 (by decide +kernel))]
    exact h3
theorem F136 (hS : SK w) (hC : SRC w v P y so fe rk) (hm : 2 ≤ m ∧ m ≤ 6) (hel : ∀ i, i < m → elN a b m c i < P) (hp : ∀ i, i < m → ((gA w 66).getD i 0).toInt = elN a b m c i) (h1 : p1.toInt = m) (hB : SBw w P so fe rk a b V) (hlt : ∀ c', V m c' → c' < c) (h : PS X k 136 0 [.ref 55, .int p1, pm_dead, pm_dead, pm_dead, pm_dead] [] w r w') : r = none ∧ FM [(55, 6), (55, 7), (55, 8)] [67] w w' ∧ SBw w' P so fe rk a b (fun m1 c1 => V m1 c1 ∨ (m1 = m ∧ c1 = c)) := by
  obtain ⟨a1, a2, a3, a4, a5, a6, a7, a8, a9, a10⟩ := id hC
  have e100 : (100 : Int32).toInt = 100 := by decide +kernel
  have feb : ∀ i, i < m → 0 ≤ fe (elN a b m c i) ∧ fe (elN a b m c i) ≤ 1000 := fun i hi => (a9 _ (hel i hi)).2
  have rkb : ∀ i, i < m → 0 ≤ rk (elN a b m c i) ∧ rk (elN a b m c i) ≤ 100 := fun i hi => (a10 _ (hel i hi)).2
  have lp : ∀ (k t : Nat) (i2 : Int32) (l3 : Int64) (i5 : Int32), i5.toInt = t → t ≤ m → i2.toInt = cstN fe a b m c t → l3.toInt = chN rk a b m c t → PS X k 136 7 [.ref 55, .int p1, .int i2, .long l3, pm_dead, .int i5] [] w r w' → r = none ∧ FM [(55, 6), (55, 7), (55, 8)] [67] w w' ∧ SBw w' P so fe rk a b (fun m1 c1 => V m1 c1 ∨ (m1 = m ∧ c1 = c)) := by
    intro k
    induction k with
    | zero => intro t i2 l3 i5 _ _ _ _ h; exact (PS_0 h).elim
    | succ k ih =>
      intro t i2 l3 i5 h5 ht h2 h3 h
      have h := U136_7 hS h
      by_cases c1 : p1 ≤ i5
      · rw [if_pos c1] at h
        rw [Int32.le_iff_toInt_le, h1, h5] at c1
        have et : t = m := by omega
        rw [et] at h2 h3
        by_cases c2 : gI w 55 6 = 0
        · rw [if_pos c2] at h
          obtain ⟨hc, h⟩ := h _ rfl _ rfl _ rfl
          have h := h _ rfl
          have hn : ∀ m c, ¬ V m c := by
            rcases hB with ⟨_, q⟩ | ⟨m', c', _, q2, q3, _⟩
            · exact q
            · rw [c2, z32] at q3; omega
          obtain ⟨g1, g2⟩ := setB (so := so) (fe := fe) (rk := rk) hS hm hel hp h1 h2 h3 (BSt_1 hn) hc
          rw [h.2]
          exact ⟨h.1, g1, g2⟩
        · rw [if_neg c2] at h
          obtain ⟨q5, w6, y5, h⟩ := h
          rcases hB with ⟨q, _⟩ | ⟨bm, bc, b1, b2, b3, b4, b5, b6⟩
          · exact absurd (Int32.toInt_inj.mp (by rw [q, z32])) c2
          · have rkb' : ∀ i, i < bm → 0 ≤ rk (elN a b bm bc i) ∧ rk (elN a b bm bc i) ≤ 100 := fun i hi => (a10 _ (b4 i hi).2).2
            obtain ⟨d1, bb, d2, d3⟩ := F137 hS h1 hm h2 h3 a7 b3 b2 b5 b6 (ch_6 rkb hm.2) (ch_6 rkb' b2.2) y5
            have h := h _ d2 (by rw [d1]; exact hS)
            rw [d1] at h
            cases bb with
            | false =>
              rw [if_pos (by decide +kernel)] at h
              rw [h.2]
              refine ⟨h.1, FM_refl hS, Or.inr ⟨bm, bc, BSt_o b1 ?_, b2, b3, b4, b5, b6⟩⟩
              have nb : ¬ (GR so fe rk a b bm bc < GR so fe rk a b m c ∨ (GR so fe rk a b m c = GR so fe rk a b bm bc ∧ m < bm)) := fun q => Bool.noConfusion (d3.mpr q)
              have hl : bm = m → bc < c := fun e => hlt bc (by rw [← e]; exact b1.1)
              unfold BTt
              by_cases e : bm = m
              · have := hl e; omega
              · omega
            | true =>
              rw [if_neg (by decide +kernel)] at h
              obtain ⟨hc, h⟩ := h _ rfl _ rfl _ rfl
              have h := h _ rfl
              have yb : GR so fe rk a b bm bc < GR so fe rk a b m c ∨ (GR so fe rk a b m c = GR so fe rk a b bm bc ∧ m < bm) := d3.mp rfl
              obtain ⟨g1, g2⟩ := setB (so := so) (fe := fe) (rk := rk) hS hm hel hp h1 h2 h3 (BSt_n b1 (by unfold BTt; omega)) hc
              rw [h.2]
              exact ⟨h.1, g1, g2⟩
      · rw [if_neg c1] at h
        rw [Int32.le_iff_toInt_le, h1, h5] at c1
        have htm : t < m := by omega
        have e1 : (i5 + 1).toInt = ((t + 1 : Nat) : Int) := by rw [zi_inc (n := 40) (by omega) (by omega), h5]; rfl
        have v1 : (aG w 66 i5).toInt = elN a b m c t := by rw [aG_n h5]; exact hp t htm
        have v2 : (aG w 65 (aG w 66 i5)).toInt = fe (elN a b m c t) := by rw [aG_n v1]; exact (a9 _ (hel t htm)).1
        have v3 : (aG w (v + 3) (aG w 66 i5)).toInt = rk (elN a b m c t) := by rw [aG_n v1]; exact (a10 _ (hel t htm)).1
        have cb := cst_b feb t (by omega)
        have fb := feb t htm
        have rb := rkb t htm
        have v4 : ((100 - aG w (v + 3) (aG w 66 i5)).toInt64).toInt = 100 - rk (elN a b m c t) := by rw [Int32.toInt_toInt64, zi_sub e100 v3 (by omega) (by omega)]
        have hb := ch_b rkb (t + 1) (by omega)
        have v5 : (l3 * (100 - aG w (v + 3) (aG w 66 i5)).toInt64).toInt = chN rk a b m c (t + 1) := lg_mul h3 v4 hb.1 (Int.le_trans hb.2 (pow100 _ (by omega)).1)
        have s1 : cstN fe a b m c (t + 1) = cstN fe a b m c t + (if 2 ≤ t then fe (elN a b m c t) else 0) := rfl
        by_cases c2 : 2 ≤ i5
        · rw [if_pos c2, a1, a2, a6] at h
          rw [Int32.le_iff_toInt_le, two32, h5] at c2
          obtain ⟨_, _, _, _, h⟩ := h
          exact ih (t + 1) _ _ _ e1 (by omega) (by rw [zi_add h2 v2 (by omega) (by omega), s1, if_pos (by omega)]) v5 h
        · rw [if_neg c2, a1, a2, a6] at h
          rw [Int32.le_iff_toInt_le, two32, h5] at c2
          obtain ⟨_, _, h⟩ := h
          exact ih (t + 1) _ _ _ e1 (by omega) (by rw [zi_add h2 z32 (by omega) (by omega), s1, if_neg (by omega)]) v5 h
  cases k with
  | zero => exact (PS_0 h).elim
  | succ k => exact lp k 0 0 1 0 z32 (Nat.zero_le _) z32 l1_64 (U136_0 hS h)
end JGA
