/-! ===== costOf, standing, finds: the reference ===== -/
section JKA
variable {X : pm_X} {k k2 : Nat} {w0 w w1 w2 w3 w4 w5 wj w' : pm_W} {r r2 q0 q1 q2 : Option Value} {p1 p2 p3 p4 p5 i1 i2 i3 i4 i5 i6 i7 i8 i9 z z1 z2 so x : Int32} {i v j m c u P t s a b d p q fx Q I J K T W N κ bm n : Nat} {l l6 l10 : Int64} {e g y : Int} {fe rk : Nat → Int} {E : Nat → Nat} {u9 u10 u12 : Value}
theorem F270 (hS : SK w) (hp : p1.toInt = (610 + 132 * u : Nat)) (hu : u ≤ 1) (hfe : ∀ x : Nat, x < 9 → fe x = if (x : Int) = p2.toInt then p3.toInt else (al w (694 + 132 * u + x)).toInt) (hm : (gI w 147 24).toInt = m) (hm6 : 2 ≤ m ∧ m ≤ 6) (hE : ∀ i, i < m → ((gA w 158).getD i 0).toInt = E i) (h9 : ∀ i, i < m → E i < 9) (hb : ∀ i, i < m → 0 ≤ fe (E i) ∧ fe (E i) ≤ 1000) (h : PS X k 270 0 [.ref 147, .int p1, .int p2, .int p3, pm_dead, pm_dead] [] w r w') : w' = w ∧ ∃ z : Int32, r = some (.int z) ∧ z.toInt = suI (fun i => if 2 ≤ i then fe (E i) else 0) m ∧ 0 ≤ z.toInt ∧ z.toInt ≤ 6000 := by
  have e84 : (84 : Int32).toInt = 84 := by decide +kernel
  have lp : ∀ (k t : Nat) (i4 i5 : Int32), i5.toInt = t → 2 ≤ t → t ≤ m → i4.toInt = suI (fun i => if 2 ≤ i then fe (E i) else 0) t → 0 ≤ i4.toInt → i4.toInt ≤ 1000 * t → PS X k 270 6 [.ref 147, .int p1, .int p2, .int p3, .int i4, .int i5] [] w r w' → w' = w ∧ ∃ z : Int32, r = some (.int z) ∧ z.toInt = suI (fun i => if 2 ≤ i then fe (E i) else 0) m ∧ 0 ≤ z.toInt ∧ z.toInt ≤ 6000 := by
    intro k
    induction k with
    | zero => intro t i4 i5 _ _ _ _ _ _ h; exact (PS_0 h).elim
    | succ k ih =>
      intro t i4 i5 h5 h2t ht h4 b0 b1 h
      have h := U270_6 hS h
      by_cases c : gI w 147 24 ≤ i5
      · rw [if_pos c] at h
        rw [Int32.le_iff_toInt_le, hm, h5] at c
        exact ⟨h.2, i4, h.1, by rw [h4, show t = m by omega], b0, by omega⟩
      · rw [if_neg c] at h
        rw [Int32.le_iff_toInt_le, hm, h5] at c
        have htm : t < m := by omega
        obtain ⟨_, h⟩ := h
        have e1 : (i5 + 1).toInt = ((t + 1 : Nat) : Int) := by rw [zi_inc (n := 40) (by omega) (by omega), h5]; rfl
        have ev : (aG w 158 i5).toInt = E t := by rw [aG_n h5]; exact hE t htm
        have fb := hb t htm
        have fv := hfe (E t) (h9 t htm)
        have s1 : suI (fun i => if 2 ≤ i then fe (E i) else 0) (t + 1) = suI (fun i => if 2 ≤ i then fe (E i) else 0) t + fe (E t) := by
          show _ + (if 2 ≤ t then fe (E t) else 0) = _
          rw [if_pos h2t]
        by_cases c2 : aG w 158 i5 = p2
        · rw [if_pos c2] at h
          rw [if_pos (by rw [← c2, ev])] at fv
          have ea : (i4 + p3).toInt = i4.toInt + fe (E t) := zi_add rfl fv.symm (by omega) (by omega)
          exact ih (t + 1) _ _ e1 (by omega) (by omega) (by rw [ea, h4, s1]) (by omega) (by omega) h
        · rw [if_neg c2] at h
          rw [if_neg (fun q => c2 (Int32.toInt_inj.mp (by rw [ev, q])))] at fv
          obtain ⟨_, _, h⟩ := h
          have e9 := h9 t htm
          have ev2 : (aG w 148 ((p1 + 84) + aG w 158 i5)).toInt = fe (E t) := by
            rw [aG_n (m := 694 + 132 * u + E t) (by rw [zi_add (zi_add hp e84 (by omega) (by omega)) ev (by omega) (by omega)]; omega), fv]
            rfl
          have ea : (i4 + aG w 148 ((p1 + 84) + aG w 158 i5)).toInt = i4.toInt + fe (E t) := zi_add rfl ev2 (by omega) (by omega)
          exact ih (t + 1) _ _ e1 (by omega) (by omega) (by rw [ea, h4, s1]) (by omega) (by omega) h
  cases k with
  | zero => exact (PS_0 h).elim
  | succ k => exact lp k 2 0 2 two32 (Nat.le_refl 2) hm6.1 z32 (by rw [z32]; omega) (by rw [z32]; omega) (U270_0 hS h)
theorem pr_b {f : Nat → Int} (h : ∀ i, i < m → 0 ≤ f i ∧ f i ≤ 100) : ∀ t, t ≤ m → 0 ≤ prI f t ∧ prI f t ≤ (100 : Int) ^ t := by
  intro t
  induction t with
  | zero => intro _; exact ⟨by show (0 : Int) ≤ 1; omega, Int.le_refl _⟩
  | succ t ih =>
    intro ht
    obtain ⟨q0, q1⟩ := ih (by omega)
    have q2 := h t (by omega)
    show 0 ≤ prI f t * f t ∧ prI f t * f t ≤ (100 : Int) ^ (t + 1)
    refine ⟨Int.mul_nonneg q0 (by omega), ?_⟩
    rw [Int.pow_succ]
    exact Int.mul_le_mul q1 (by omega) (by omega) (Int.le_of_lt (Int.pow_pos (by decide)))
theorem F271 (hS : SK w) (hp : p1.toInt = (610 + 132 * u : Nat)) (hu : u ≤ 1) (hrk : ∀ x : Nat, x < 9 → rk x = (al w (703 + 132 * u + x)).toInt) (h2 : p2.toInt = m) (hm6 : 2 ≤ m ∧ m ≤ 6) (hE : ∀ i, i < m → ((gA w 158).getD i 0).toInt = E i) (h9 : ∀ i, i < m → E i < 9) (hb : ∀ i, i < m → 0 ≤ rk (E i) ∧ rk (E i) ≤ 100) (h : PS X k 271 0 [.ref 147, .int p1, .int p2, pm_dead, pm_dead, pm_dead] [] w r w') : w' = w ∧ ∃ l : Int64, r = some (.long l) ∧ l.toInt = prI (fun i => 100 - rk (E i)) m * (100 : Int) ^ (6 - m) := by
  have e93 : (93 : Int32).toInt = 93 := by decide +kernel
  have e100 : (100 : Int32).toInt = 100 := by decide +kernel
  have e6 : (6 : Int32).toInt = 6 := by decide +kernel
  obtain ⟨F, hF⟩ : ∃ F : Nat → Int, F = fun i => if i < m then 100 - rk (E i) else 100 := ⟨_, rfl⟩
  have Fb : ∀ i, i < 6 → 0 ≤ F i ∧ F i ≤ 100 := fun i _ => by
    rw [hF]
    show 0 ≤ (if i < m then 100 - rk (E i) else 100) ∧ (if i < m then 100 - rk (E i) else 100) ≤ 100
    by_cases c : i < m
    · rw [if_pos c]; have := hb i c; omega
    · rw [if_neg c]; omega
  have fin : prI F 6 = prI (fun i => 100 - rk (E i)) m * (100 : Int) ^ (6 - m) := by
    have g : ∀ t, t ≤ m → prI F t = prI (fun i => 100 - rk (E i)) t := by
      intro t
      induction t with
      | zero => intro _; rfl
      | succ t ih =>
        intro ht
        show prI F t * F t = prI _ t * (100 - rk (E t))
        rw [ih (by omega), hF]
        show _ * (if t < m then 100 - rk (E t) else 100) = _
        rw [if_pos (by omega)]
    have g2 : ∀ s, prI F (m + s) = prI F m * (100 : Int) ^ s := by
      intro s
      induction s with
      | zero => show prI F m = prI F m * 1; rw [Int.mul_one]
      | succ s ih =>
        show prI F (m + s) * F (m + s) = _
        rw [ih, hF]
        show _ * (if m + s < m then _ else (100 : Int)) = _
        rw [if_neg (by omega), Int.pow_succ, Int.mul_assoc]
    have q := g2 (6 - m)
    rw [show m + (6 - m) = 6 by omega, g m (Nat.le_refl m)] at q
    exact q
  have lp : ∀ (k t : Nat) (l3 : Int64) (i5 : Int32), i5.toInt = t → t ≤ 6 → l3.toInt = prI F t → PS X k 271 5 [.ref 147, .int p1, .int p2, .long l3, pm_dead, .int i5] [] w r w' → w' = w ∧ ∃ l : Int64, r = some (.long l) ∧ l.toInt = prI F 6 := by
    intro k
    induction k with
    | zero => intro t l3 i5 _ _ _ h; exact (PS_0 h).elim
    | succ k ih =>
      intro t l3 i5 h5 ht h3 h
      have h := U271_5 hS h
      by_cases c : 6 ≤ i5
      · rw [if_pos c] at h
        rw [Int32.le_iff_toInt_le, e6, h5] at c
        exact ⟨h.2, l3, h.1, by rw [h3, show t = 6 by omega]⟩
      · rw [if_neg c] at h
        rw [Int32.le_iff_toInt_le, e6, h5] at c
        have e1 : (i5 + 1).toInt = ((t + 1 : Nat) : Int) := by rw [zi_inc (n := 40) (by omega) (by omega), h5]; rfl
        have pb := pr_b (m := 6) Fb (t + 1) (by omega)
        have s1 : prI F (t + 1) = prI F t * F t := rfl
        rw [s1] at pb
        have p12 := (pow100 (t + 1) (by omega)).1
        by_cases c2 : p2 ≤ i5
        · rw [if_pos c2] at h
          rw [Int32.le_iff_toInt_le, h2, h5] at c2
          have fv : F t = 100 := by rw [hF]; exact if_neg (by omega)
          rw [fv] at s1 pb
          exact ih (t + 1) _ _ e1 (by omega) (by rw [s1]; exact lg_mul h3 l100_64 pb.1 (Int.le_trans pb.2 p12)) h
        · rw [if_neg c2] at h
          rw [Int32.le_iff_toInt_le, h2, h5] at c2
          have htm : t < m := by omega
          have fv : F t = 100 - rk (E t) := by rw [hF]; exact if_pos htm
          rw [fv] at s1 pb
          obtain ⟨_, _, h⟩ := h
          have ev : (aG w 158 i5).toInt = E t := by rw [aG_n h5]; exact hE t htm
          have e9 := h9 t htm
          have rb := hb t htm
          have ev2 : (aG w 148 ((p1 + 93) + aG w 158 i5)).toInt = rk (E t) := by
            rw [aG_n (m := 703 + 132 * u + E t) (by rw [zi_add (zi_add hp e93 (by omega) (by omega)) ev (by omega) (by omega)]; omega), hrk (E t) e9]
            rfl
          have v4 : ((100 - aG w 148 ((p1 + 93) + aG w 158 i5)).toInt64).toInt = 100 - rk (E t) := by rw [Int32.toInt_toInt64, zi_sub e100 ev2 (by omega) (by omega)]
          exact ih (t + 1) _ _ e1 (by omega) (by rw [s1]; exact lg_mul h3 v4 pb.1 (Int.le_trans pb.2 p12)) h
  cases k with
  | zero => exact (PS_0 h).elim
  | succ k =>
    obtain ⟨b1, l, b2, b3⟩ := lp k 0 1 0 z32 (Nat.zero_le _) l1_64 (U271_0 hS h)
    exact ⟨b1, l, b2, by rw [b3, fin]⟩
theorem X192 (hS : SK w) (h : PS X k 266 192 [.ref 147, .int i1, .int i2, .int i3, .int i4, .int i5, .long l6, pm_dead, .int i8, .int i9, u10, pm_dead, u12] [] w r w') : ∃ k', k' < k ∧ PS X k' 266 21 [.ref 147, .int i1, .int i2, .int i3, .int i4, .int i5, .long l6, pm_dead, .int i8, .int (i9 + 1), u10, pm_dead, u12] [] w r w' := by
  cases k with
  | zero => exact (PS_0 h).elim
  | succ k => exact ⟨k, Nat.lt_succ_self k, U266_192 hS h⟩
/-- the round becomes the best one -/
theorem X152 (hS : SK w) (hm : 2 ≤ m ∧ m ≤ 6) (h8 : i8.toInt = m) (h : PS X k 266 152 [.ref 147, .int i1, .int i2, .int i3, .int i4, .int i5, .long l6, pm_dead, .int i8, .int i9, .long l10, pm_dead, u12] [] w r w') : ∃ (k' : Nat) (wz : pm_W) (v10 v12 : Value), k' < k ∧ FM [(147, 23)] [159] w wz ∧ (gI wz 147 23).toInt = m ∧ (∀ i, i < m → (gA wz 159).getD i 0 = (gA w 158).getD i 0) ∧ PS X k' 266 21 [.ref 147, .int i1, .int i2, .int i3, .int i4, .int i5, .long l10, pm_dead, .int i8, .int (i9 + 1), v10, pm_dead, v12] [] wz r w' := by
  cases k with
  | zero => exact (PS_0 h).elim
  | succ k =>
    have h := U266_152 hS h _ rfl
    have f1 : FM [(147, 23)] [159] w (sI w 147 23 i8) := FM_sI hS (by decide)
    have g1 : gI (sI w 147 23 i8) 147 23 = i8 := gI_sI (SK_isF hS (by decide +kernel))
    have lp : ∀ (k t : Nat) (wk : pm_W) (i12 : Int32), FM [] [159] (sI w 147 23 i8) wk → i12.toInt = t → t ≤ m → (∀ i, i < t → (gA wk 159).getD i 0 = (gA w 158).getD i 0) → PS X k 266 165 [.ref 147, .int i1, .int i2, .int i3, .int i4, .int i5, .long l10, pm_dead, .int i8, .int i9, .long l10, pm_dead, .int i12] [] wk r w' → ∃ (k' : Nat) (wz : pm_W) (v10 v12 : Value), k' < k ∧ FM [(147, 23)] [159] w wz ∧ (gI wz 147 23).toInt = m ∧ (∀ i, i < m → (gA wz 159).getD i 0 = (gA w 158).getD i 0) ∧ PS X k' 266 21 [.ref 147, .int i1, .int i2, .int i3, .int i4, .int i5, .long l10, pm_dead, .int i8, .int (i9 + 1), v10, pm_dead, v12] [] wz r w' := by
      intro k
      induction k with
      | zero => intro t wk i12 _ _ _ _ h; exact (PS_0 h).elim
      | succ k ih =>
        intro t wk i12 fm h12 ht hc h
        have S1 : SK wk := fm.2.2.2
        have h := U266_165 S1 h
        by_cases c : i8 ≤ i12
        · rw [if_pos c] at h
          rw [Int32.le_iff_toInt_le, h8, h12] at c
          obtain ⟨k', hk, h⟩ := X192 S1 h
          exact ⟨k', wk, _, _, by omega, FM_trans f1 (FM_mono fm (by intro p hp; cases hp) (by decide)), by rw [FM_i fm (by simp), g1, h8], fun i hi => hc i (by omega), h⟩
        · rw [if_neg c] at h
          rw [Int32.le_iff_toInt_le, h8, h12] at c
          obtain ⟨_, _, h⟩ := h
          have h := h _ rfl
          have ms := fun i => aS159 (x := aG wk 158 i12) S1 h12 (by omega) i
          obtain ⟨k', wz, v10, v12, a0, a1, a2, a3, a4⟩ := ih (t + 1) _ _ (FM_trans fm (FM_aS S1 (by decide))) (by rw [zi_inc (n := 40) (by omega) (by omega), h12]; rfl) (by omega) (fun i hi => by
            rw [ms i]
            by_cases e : i = t
            · rw [if_pos e, aG_n h12, FM_a fm (by decide), gA_sI, e]
            · rw [if_neg e]; exact hc i (by omega)) h
          exact ⟨k', wz, v10, v12, by omega, a1, a2, a3, a4⟩
    obtain ⟨k', wz, v10, v12, a0, a1, a2, a3, a4⟩ := lp k 0 _ 0 (FM_refl f1.2.2.2) z32 (Nat.zero_le _) (fun i hi => absurd hi (Nat.not_lt_zero i)) h
    exact ⟨k', wz, v10, v12, by omega, a1, a2, a3, a4⟩
end JKA
