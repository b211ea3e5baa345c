/-! ===== the reference: what goes through from one to another ===== -/
section ILR
variable {X : pm_X} {k k2 : Nat} {w0 w w1 w2 w3 w4 wj w' : pm_W} {r r2 q0 q1 q2 : Option Value} {p1 p2 p3 p4 i1 i2 i3 i4 i5 i6 z z1 z2 x y : Int32} {i v j m u P t s b Q A B I J K n a T p W : Nat} {c c' R : Nat → Nat → Int} {S : Nat → Bool} {o : Nat → Int} {e f g : Int}
theorem cutC_cg (h : ∀ a b, a < n → b < n → c a b = c' a b) : cutC c S n = cutC c' S n := by
  unfold cutC
  refine suI_cg n (fun a ha => ?_)
  congr 1
  exact suI_cg n (fun b hb => by rw [h a b ha hb])
theorem cutC_ext (hm : m ≤ n) (h : ∀ a b, a < n → b < n → (m ≤ a ∨ m ≤ b) → c a b = 0) : cutC c S n = cutC c S m := by
  unfold cutC
  rw [suI_ext hm (fun a h1 h2 => ?_)]
  · refine suI_cg m (fun a ha => ?_)
    rw [suI_ext hm (fun b h1 h2 => ?_)]
    rw [h a b (by omega) h2 (Or.inr h1)]
    cases S b <;> rfl
  · rw [suI_z n (fun b hb => by rw [h a b h2 hb (Or.inl h1)]; cases S b <;> rfl)]
    cases S a <;> rfl
/-! laying the rooms -/
theorem moR_s (hS : SK w) (ha : a < 10) (hb : b < 10) (hx : x.toInt = (10 * a + b : Nat)) (i j : Nat) (hi : i < 10) (hj : j < 10) : moR (aS w 161 x y) i j = if i = a ∧ j = b then y.toInt else moR w i j := by
  unfold moR
  rw [gA_aS (SK_isA hS (by decide +kernel)), i_nat hx, getD_set (by rw [l161 hS]; omega)]
  by_cases e : i = a ∧ j = b
  · rw [if_pos (by omega), if_pos e]
  · rw [if_neg (by omega), if_neg e]
def Z4 (w : pm_W) : Prop := (∀ i, i < 100 → (gA w 160).getD i 0 = 0 ∧ (gA w 161).getD i 0 = 0 ∧ (gA w 162).getD i 0 = 0) ∧ ∀ i, i < 10 → (gA w 163).getD i 0 = 0
theorem F277 (hS : SK w) (h : PS X k 277 0 [.ref 147, pm_dead] [] w r w') : r = none ∧ FM [] [160, 161, 162, 163] w w' ∧ Z4 w' := by
  have e100 : (100 : Int32).toInt = 100 := by decide +kernel
  have lp2 : ∀ (k A : Nat) (w1 : pm_W) (i1 : Int32), FM [] [160, 161, 162, 163] w w1 → i1.toInt = A → A ≤ 10 → (∀ i, i < 100 → (gA w1 160).getD i 0 = 0 ∧ (gA w1 161).getD i 0 = 0 ∧ (gA w1 162).getD i 0 = 0) → (∀ i, i < A → (gA w1 163).getD i 0 = 0) → PS X k 277 37 [.ref 147, .int i1] [] w1 r w' → r = none ∧ FM [] [160, 161, 162, 163] w w' ∧ Z4 w' := by
    intro k
    induction k with
    | zero => intro A w1 i1 _ _ _ _ _ h; exact (PS_0 h).elim
    | succ k ih =>
      intro A w1 i1 fm h1 hA hz ho h
      have S1 : SK w1 := fm.2.2.2
      have h := U277_37 S1 h
      by_cases c : 10 ≤ i1
      · rw [if_pos c] at h
        rw [Int32.le_iff_toInt_le, ten32, h1] at c
        rw [h.2]
        exact ⟨h.1, fm, hz, fun i hi => ho i (by omega)⟩
      · rw [if_neg c] at h
        rw [Int32.le_iff_toInt_le, ten32, h1] at c
        obtain ⟨_, h⟩ := h
        have h := h _ rfl
        refine ih (A + 1) _ _ (FM_trans fm (FM_aS S1 (by decide))) (by rw [zi_inc (n := 200) (by omega) (by omega), h1]; rfl) (by omega) (fun i hi => ?_) (fun i hi => ?_) h
        · rw [gA_aS_ne (by decide), gA_aS_ne (by decide), gA_aS_ne (by decide)]; exact hz i hi
        · rw [gA_aS (SK_isA S1 (by decide +kernel)), i_nat h1, getD_set (by rw [l163 S1]; omega)]
          by_cases e : i = A
          · rw [if_pos e]
          · rw [if_neg e]; exact ho i (by omega)
  have lp : ∀ (k A : Nat) (w1 : pm_W) (i1 : Int32), FM [] [160, 161, 162, 163] w w1 → i1.toInt = A → A ≤ 100 → (∀ i, i < A → (gA w1 160).getD i 0 = 0 ∧ (gA w1 161).getD i 0 = 0 ∧ (gA w1 162).getD i 0 = 0) → PS X k 277 2 [.ref 147, .int i1] [] w1 r w' → r = none ∧ FM [] [160, 161, 162, 163] w w' ∧ Z4 w' := by
    intro k
    induction k with
    | zero => intro A w1 i1 _ _ _ _ h; exact (PS_0 h).elim
    | succ k ih =>
      intro A w1 i1 fm h1 hA hz h
      have S1 : SK w1 := fm.2.2.2
      have h := U277_2 S1 h
      by_cases c : 100 ≤ i1
      · rw [if_pos c] at h
        rw [Int32.le_iff_toInt_le, e100, h1] at c
        exact lp2 k 0 w1 0 fm z32 (Nat.zero_le _) (fun i hi => hz i (by omega)) (fun i hi => absurd hi (Nat.not_lt_zero i)) h
      · rw [if_neg c] at h
        rw [Int32.le_iff_toInt_le, e100, h1] at c
        obtain ⟨_, h⟩ := h
        obtain ⟨_, h⟩ := h _ rfl
        obtain ⟨_, h⟩ := h _ rfl
        have h := h _ rfl
        have S2 : SK (aS w1 160 i1 0) := SK_aS S1
        have S3 : SK (aS (aS w1 160 i1 0) 161 i1 0) := SK_aS S2
        refine ih (A + 1) _ _ (FM_trans fm (FM_trans (FM_aS S1 (by decide)) (FM_trans (FM_aS S2 (by decide)) (FM_aS S3 (by decide))))) (by rw [zi_inc (n := 200) (by omega) (by omega), h1]; rfl) (by omega) (fun i hi => ?_) h
        have a1 : (gA (aS (aS (aS w1 160 i1 0) 161 i1 0) 162 i1 0) 160).getD i 0 = if i = A then 0 else (gA w1 160).getD i 0 := by
          rw [gA_aS_ne (by decide), gA_aS_ne (by decide), gA_aS (SK_isA S1 (by decide +kernel)), i_nat h1, getD_set (by rw [l160 S1]; omega)]
        have a2 : (gA (aS (aS (aS w1 160 i1 0) 161 i1 0) 162 i1 0) 161).getD i 0 = if i = A then 0 else (gA w1 161).getD i 0 := by
          rw [gA_aS_ne (by decide), gA_aS (SK_isA S2 (by decide +kernel)), i_nat h1, getD_set (by rw [l161 S2]; omega), gA_aS_ne (by decide)]
        have a3 : (gA (aS (aS (aS w1 160 i1 0) 161 i1 0) 162 i1 0) 162).getD i 0 = if i = A then 0 else (gA w1 162).getD i 0 := by
          rw [gA_aS (SK_isA S3 (by decide +kernel)), i_nat h1, getD_set (by rw [l162 S3]; omega), gA_aS_ne (by decide), gA_aS_ne (by decide)]
        rw [a1, a2, a3]
        by_cases e : i = A
        · rw [if_pos e, if_pos e, if_pos e]; exact ⟨rfl, rfl, rfl⟩
        · rw [if_neg e, if_neg e, if_neg e]; exact hz i (by omega)
  cases k with
  | zero => exact (PS_0 h).elim
  | succ k => exact lp k 0 w 0 (FM_refl hS) z32 (Nat.zero_le _) (fun i hi => absurd hi (Nat.not_lt_zero i)) (U277_0 hS h)
/-- the rooms of a village u between its P people -/
def rmA (w : pm_W) (u i j : Nat) : Int := (rmI (fun k => al w (610 + 132 * u + k)) (dR w) i j).toInt
theorem rmI_hi {V D : Nat → Int32} (hV : VW V) (hD : ∀ q, 0 ≤ (D q).toInt ∧ (D q).toInt ≤ 99) (hi : i < 9) (hj : j < 9) : 0 ≤ (rmI V D i j).toInt ∧ (rmI V D i j).toInt ≤ 99 := by
  have v := hV (9 * j + i) (by omega)
  have d := hD (9 * i + j)
  have e : (V (3 + (9 * j + i)) - D (9 * i + j)).toInt = (V (3 + (9 * j + i))).toInt - (D (9 * i + j)).toInt := zi_sub rfl rfl (by omega) (by omega)
  unfold rmI
  by_cases c : i = j
  · rw [if_pos c, z32]; omega
  · rw [if_neg c]
    by_cases c2 : 0 < (V (3 + (9 * j + i)) - D (9 * i + j)).toInt
    · rw [if_pos c2, e]; omega
    · rw [if_neg c2, z32]; omega
end ILR
