/-! ===== the reference's rounds: power, isRound, hasRoom, costOf, standing ===== -/
section JJA
variable {X : pm_X} {k k2 : Nat} {w0 w w1 w2 w3 w4 w5 wj w' : pm_W} {r r2 q0 q1 q2 : Option Value} {p1 p2 p3 p4 p5 i1 i2 i3 i4 i5 i6 i7 i8 z z1 z2 so x : Int32} {i v j m c u P t s a b d p q fx Q I J K T W N κ bm n : Nat} {l : Int64} {e g y : Int} {fe rk : Nat → Int} {E : Nat → Nat}
theorem F267 (hS : SK w) (h1 : p1.toInt = t) (ht : t ≤ 6) (h : PS X k 267 0 [.int p1, pm_dead, pm_dead] [] w r w') : ∃ z : Int32, z.toInt = (9 ^ t : Nat) ∧ r = some (.int z) ∧ w' = w := by
  have p6 : ∀ j, j ≤ 6 → 9 ^ j ≤ 531441 := fun j hj => Nat.le_trans (Nat.pow_le_pow_right (by decide) hj) (by decide)
  have lp : ∀ (k j : Nat) (i1 i2 : Int32), i2.toInt = j → j ≤ t → i1.toInt = (9 ^ j : Nat) → PS X k 267 4 [.int p1, .int i1, .int i2] [] w r w' → ∃ z : Int32, z.toInt = (9 ^ t : Nat) ∧ r = some (.int z) ∧ w' = w := by
    intro k
    induction k with
    | zero => intro j i1 i2 _ _ _ h; exact (PS_0 h).elim
    | succ k ih =>
      intro j i1 i2 h2 hj hv h
      have h := U267_4 hS h
      by_cases c : p1 ≤ i2
      · rw [if_pos c] at h
        rw [Int32.le_iff_toInt_le, h1, h2] at c
        exact ⟨i1, by rw [hv, show j = t by omega], h.1, h.2⟩
      · rw [if_neg c] at h
        rw [Int32.le_iff_toInt_le, h1, h2] at c
        have q := p6 (j + 1) (by omega)
        have q2 : 9 ^ (j + 1) = 9 ^ j * 9 := by rw [Nat.pow_succ]
        refine ih (j + 1) _ _ (by rw [zi_inc (n := 40) (by omega) (by omega), h2]; rfl) (by omega) ?_ h
        rw [zi_mul hv nine32 (by omega) (by omega)]
        omega
  cases k with
  | zero => exact (PS_0 h).elim
  | succ k => exact lp k 0 1 0 z32 (Nat.zero_le _) o32 (U267_0 hS h)
theorem l158 (hS : SK w) : (gA w 158).length = 6 := SK_len hS (a := 158) (n := 6) (by decide +kernel) (by decide)
theorem l159 (hS : SK w) : (gA w 159).length = 6 := SK_len hS (a := 159) (n := 6) (by decide +kernel) (by decide)
theorem aS158 (hS : SK w) (hx : i1.toInt = d) (hd : d < 6) (i : Nat) : (gA (aS w 158 i1 x) 158).getD i 0 = if i = d then x else (gA w 158).getD i 0 := by
  rw [gA_aS (SK_isA hS (by decide +kernel)), i_nat hx, getD_set (by rw [l158 hS]; exact hd)]
theorem aS159 (hS : SK w) (hx : i1.toInt = d) (hd : d < 6) (i : Nat) : (gA (aS w 159 i1 x) 159).getD i 0 = if i = d then x else (gA w 159).getD i 0 := by
  rw [gA_aS (SK_isA hS (by decide +kernel)), i_nat hx, getD_set (by rw [l159 hS]; exact hd)]
def snE (E : Nat → Nat) (t q : Nat) : Bool := (List.range t).any (fun i => Nat.beq (E i) q)
theorem snE_t : snE E t q = true ↔ ∃ i, i < t ∧ E i = q := by
  unfold snE
  rw [List.any_eq_true]
  constructor
  · rintro ⟨i, hi, e⟩
    exact ⟨i, List.mem_range.mp hi, Nat.eq_of_beq_eq_true e⟩
  · rintro ⟨i, hi, e⟩
    exact ⟨i, List.mem_range.mpr hi, by rw [e]; exact Nat.beq_refl q⟩
theorem snE_s : snE E (t + 1) q = (snE E t q || decide (q = E t)) := by
  apply Bool.eq_iff_iff.mpr
  rw [Bool.or_eq_true, snE_t, snE_t, decide_eq_true_iff]
  constructor
  · rintro ⟨i, hi, e⟩
    by_cases h : i = t
    · rw [h] at e; exact Or.inr e.symm
    · exact Or.inl ⟨i, by omega, e⟩
  · rintro (⟨i, hi, e⟩ | e)
    · exact ⟨i, by omega, e⟩
    · exact ⟨t, by omega, e.symm⟩
/-- people, none twice -/
def RNd (P : Nat) (E : Nat → Nat) (m : Nat) : Prop := (∀ i, i < m → E i < P) ∧ ∀ i j, i < j → j < m → E i ≠ E j
theorem F268 (hS : SK w) (hp : p1.toInt = (610 + 132 * u : Nat)) (hP : (al w (610 + 132 * u)).toInt = P) (hP9 : P ≤ 9) (h2 : p2.toInt = fx) (h3 : p3.toInt = m) (hf : 1 ≤ fx ∧ fx ≤ m) (hm : m ≤ 6) (h4 : p4.toInt = c) (hE0 : ∀ i, i < fx → ((gA w 158).getD i 0).toInt = E i) (hE : ∀ i, fx ≤ i → i < m → E i = c / 9 ^ (m - 1 - i) % 9) (h9 : ∀ i, i < m → E i < 9) (h : PS X k 268 0 [.ref 147, .int p1, .int p2, .int p3, .int p4, pm_dead, pm_dead, pm_dead] [] w r w') : FM [] [158] w w' ∧ (∀ i, i < m → ((gA w' 158).getD i 0).toInt = E i) ∧ ∃ bb : Bool, r = some (.int (b2i bb)) ∧ (bb = true ↔ RNd P E m) := by
  have chk : ∀ (k t : Nat) (wk : pm_W) (i5 i6 i7 : Int32), FM [] [158] w wk → (∀ i, i < m → ((gA wk 158).getD i 0).toInt = E i) → i7.toInt = t → t ≤ m → MSK i6 9 (snE E t) → RNd P E t → PS X k 268 46 [.ref 147, .int p1, .int p2, .int p3, .int p4, .int i5, .int i6, .int i7] [] wk r w' → FM [] [158] w w' ∧ (∀ i, i < m → ((gA w' 158).getD i 0).toInt = E i) ∧ ∃ bb : Bool, r = some (.int (b2i bb)) ∧ (bb = true ↔ RNd P E m) := by
    intro k
    induction k with
    | zero => intro t wk i5 i6 i7 _ _ _ _ _ _ h; exact (PS_0 h).elim
    | succ k ih =>
      intro t wk i5 i6 i7 fm hEk h7 ht hmk hr h
      have S1 : SK wk := fm.2.2.2
      have h := U268_46 S1 h
      by_cases c1 : p3 ≤ i7
      · rw [if_pos c1] at h
        rw [Int32.le_iff_toInt_le, h3, h7] at c1
        rw [h.2]
        exact ⟨fm, hEk, true, h.1, ⟨fun _ => by rw [show m = t by omega]; exact hr, fun _ => rfl⟩⟩
      · rw [if_neg c1] at h
        rw [Int32.le_iff_toInt_le, h3, h7] at c1
        have htm : t < m := by omega
        obtain ⟨_, h⟩ := h
        have ev : (aG wk 158 i7).toInt = E t := by rw [aG_n h7]; exact hEk t htm
        have h := use_p S1 h (fun _ _ y => F221n (m := 610 + 132 * u) (L := P) S1 hp (by rw [al_FM fm (by decide)]; exact hP) (by omega) y)
        by_cases cp : 0 ≤ (aG wk 158 i7).toInt ∧ (aG wk 158 i7).toInt < P
        · have h := ifb_t cp h
          rw [ev] at cp
          obtain ⟨_, h⟩ := h
          have e9 := h9 t htm
          have tb := MSK_t hmk ev e9 (by decide)
          by_cases cs : ((i6 >>> (aG wk 158 i7 &&& 31)) &&& 1) = 1
          · rw [if_pos cs] at h
            obtain ⟨i, hi, e⟩ := snE_t.mp (tb.mp cs)
            rw [h.2]
            exact ⟨fm, hEk, false, h.1, ⟨fun q => Bool.noConfusion q, fun q => absurd e (q.2 i t hi htm)⟩⟩
          · rw [if_neg cs] at h
            obtain ⟨_, h⟩ := h
            have ns : ¬ snE E t (E t) = true := fun q => cs (tb.mpr q)
            refine ih (t + 1) wk _ _ _ fm hEk (by rw [zi_inc (n := 40) (by omega) (by omega), h7]; rfl) (by omega) (MSK_cg (MSK_ob hmk ev e9 (by decide)) (fun q _ => snE_s)) ⟨fun i hi => ?_, fun i j hij hj => ?_⟩ h
            · by_cases e : i = t
              · rw [e]; omega
              · exact hr.1 i (by omega)
            · by_cases e : j = t
              · rw [e]
                exact fun q => ns (snE_t.mpr ⟨i, by omega, q⟩)
              · exact hr.2 i j hij (by omega)
        · have h := ifb_f cp h
          rw [ev] at cp
          rw [h.2]
          exact ⟨fm, hEk, false, h.1, ⟨fun q => Bool.noConfusion q, fun q => by have := q.1 t htm; omega⟩⟩
  have dig : ∀ (k s : Nat) (wk : pm_W) (i5 i6 : Int32), FM [] [158] w wk → i6.toInt = (m : Int) - 1 - s → s ≤ m - fx → i5.toInt = (c / 9 ^ s : Nat) → (∀ i, i < m → (i < fx ∨ m - s ≤ i) → ((gA wk 158).getD i 0).toInt = E i) → PS X k 268 9 [.ref 147, .int p1, .int p2, .int p3, .int p4, .int i5, .int i6, pm_dead] [] wk r w' → FM [] [158] w w' ∧ (∀ i, i < m → ((gA w' 158).getD i 0).toInt = E i) ∧ ∃ bb : Bool, r = some (.int (b2i bb)) ∧ (bb = true ↔ RNd P E m) := by
    intro k
    induction k with
    | zero => intro s wk i5 i6 _ _ _ _ _ h; exact (PS_0 h).elim
    | succ k ih =>
      intro s wk i5 i6 fm h6 hs h5 hEk h
      have S1 : SK wk := fm.2.2.2
      have h := U268_9 S1 h
      by_cases c1 : i6 < p2
      · rw [if_pos c1] at h
        rw [Int32.lt_iff_toInt_lt, h6, h2] at c1
        exact chk k 0 wk _ 0 0 fm (fun i hi => hEk i hi (by omega)) z32 (Nat.zero_le _) (MSK_cg MSK_0 (fun b _ => rfl)) ⟨fun i hi => absurd hi (Nat.not_lt_zero i), fun i j _ hj => absurd hj (Nat.not_lt_zero j)⟩ h
      · rw [if_neg c1] at h
        rw [Int32.lt_iff_toInt_lt, h6, h2] at c1
        obtain ⟨_, h⟩ := h
        have h := h _ rfl
        have e6 : i6.toInt = (m - 1 - s : Nat) := by omega
        have q9 : (i5 - i5 / 9 * 9).toInt = (c / 9 ^ s % 9 : Nat) := zi_rem h5 (b := 9) nine32
        have d9 : (i5 / 9).toInt = (c / 9 ^ s / 9 : Nat) := zi_div h5 (b := 9) nine32
        have ms := fun i => aS158 (x := i5 - i5 / 9 * 9) S1 e6 (by omega) i
        refine ih (s + 1) _ _ _ (FM_trans fm (FM_aS S1 (by decide))) (by rw [zi_add h6 (by decide +kernel : (-1 : Int32).toInt = -1) (by omega) (by omega)]; omega) (by omega) (by rw [d9, Nat.div_div_eq_div_mul, ← Nat.pow_succ]) (fun i hi hh => ?_) h
        rw [ms i]
        by_cases e : i = m - 1 - s
        · rw [if_pos e, q9, hE i (by omega) hi, show m - 1 - i = s by omega]
        · rw [if_neg e]
          exact hEk i hi (by omega)
  cases k with
  | zero => exact (PS_0 h).elim
  | succ k => exact dig k 0 w _ _ (FM_refl hS) (by rw [zi_sub h3 o32 (by omega) (by omega)]; omega) (Nat.zero_le _) (by rw [Nat.pow_zero, Nat.div_one]; exact h4) (fun i hi hh => hE0 i (by omega)) (U268_0 hS h)
theorem F269v (hS : SK w) (hu : u ≤ 1) (hp : p1.toInt = (610 + 132 * u : Nat)) (h2 : p2.toInt = m) (hm : 2 ≤ m ∧ m ≤ 6) (h3 : p3.toInt = y) (hE : ∀ i, i < m → ((gA w 158).getD i 0).toInt = E i) (h9 : ∀ i, i < m → E i < 9) (h : PS X k 269 0 [.ref 147, .int p1, .int p2, .int p3, pm_dead, pm_dead] [] w r w') : w' = w ∧ ∃ bb : Bool, r = some (.int (b2i bb)) ∧ (bb = true ↔ ∀ i, i < m → y ≤ rmA w u (E i) (E ((i + 1) % m))) := by
  have lp : ∀ (k t : Nat) (bb : Bool) (i5 : Int32), i5.toInt = t → t ≤ m → (bb = true ↔ ∀ i, i < t → y ≤ rmA w u (E i) (E ((i + 1) % m))) → PS X k 269 6 [.ref 147, .int p1, .int p2, .int p3, .int (b2i bb), .int i5] [] w r w' → w' = w ∧ ∃ bb : Bool, r = some (.int (b2i bb)) ∧ (bb = true ↔ ∀ i, i < m → y ≤ rmA w u (E i) (E ((i + 1) % m))) := by
    intro k
    induction k with
    | zero => intro t bb i5 _ _ _ h; exact (PS_0 h).elim
    | succ k ih =>
      intro t bb i5 h5 ht hb h
      have h := U269_6 hS h
      by_cases c1 : p2 ≤ i5
      · rw [if_pos c1] at h
        rw [Int32.le_iff_toInt_le, h2, h5] at c1
        exact ⟨h.2, bb, h.1, by rw [hb, show t = m by omega]⟩
      · rw [if_neg c1] at h
        rw [Int32.le_iff_toInt_le, h2, h5] at c1
        have htm : t < m := by omega
        cases bb with
        | false =>
          rw [if_pos (by decide +kernel)] at h
          exact ⟨h.2, false, h.1, ⟨fun q => Bool.noConfusion q, fun q => hb.mpr (fun i hi => q i (by omega))⟩⟩
        | true =>
          rw [if_neg (by decide +kernel)] at h
          obtain ⟨_, _, h⟩ := h
          have e1 : (i5 + 1).toInt = ((t + 1 : Nat) : Int) := by rw [zi_inc (n := 40) (by omega) (by omega), h5]; rfl
          have er : ((i5 + 1) - (i5 + 1) / p2 * p2).toInt = ((t + 1) % m : Nat) := zi_rem e1 h2
          have tm : (t + 1) % m < m := Nat.mod_lt _ (by omega)
          have v1 : (aG w 158 i5).toInt = E t := by rw [aG_n h5]; exact hE t htm
          have v2 : (aG w 158 ((i5 + 1) - (i5 + 1) / p2 * p2)).toInt = E ((t + 1) % m) := by rw [aG_n er]; exact hE _ tm
          have h := use_p hS h (fun _ _ y => F231n hS hp hu v1 v2 (h9 t htm) (h9 _ tm) y)
          have vr : (rmI (fun k => al w (610 + 132 * u + k)) (dR w) (E t) (E ((t + 1) % m))).toInt = rmA w u (E t) (E ((t + 1) % m)) := rfl
          by_cases c2 : rmI (fun k => al w (610 + 132 * u + k)) (dR w) (E t) (E ((t + 1) % m)) < p3
          · rw [if_pos c2] at h
            rw [Int32.lt_iff_toInt_lt, vr, h3] at c2
            exact ih (t + 1) false _ e1 (by omega) ⟨fun q => Bool.noConfusion q, fun q => by have := q t (by omega); omega⟩ h
          · rw [if_neg c2] at h
            rw [Int32.lt_iff_toInt_lt, vr, h3] at c2
            refine ih (t + 1) true _ e1 (by omega) ⟨fun _ i hi => ?_, fun _ => rfl⟩ h
            by_cases e : i = t
            · rw [e]; omega
            · exact hb.mp rfl i (by omega)
  cases k with
  | zero => exact (PS_0 h).elim
  | succ k => exact lp k 0 true 0 z32 (Nat.zero_le _) ⟨fun _ i hi => absurd hi (Nat.not_lt_zero i), fun _ => rfl⟩ (U269_0 hS h)
end JJA
