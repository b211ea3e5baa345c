/-! ===== the reference: what goes through from one to another ===== -/
section ILR
variable {X : pm_X} {k k2 : Nat} {w0 w w1 w2 w3 w4 wj w' : pm_W} {r r2 q0 q1 q2 : Option Value} {p1 p2 p3 p4 i1 i2 i3 i4 i5 i6 z z1 z2 x y : Int32} {i v j m u P t s b Q A B I J K n a T p W : Nat} {c c' R : Nat → Nat → Int} {S : Nat → Bool} {o : Nat → Int} {e f g : Int}
theorem cutC_cg (h : ∀ a b, a < n → b < n → c a b = c' a b) : cutC c S n = cutC c' S n := by
  unfold cutC
  refine suI_cg n (fun a ha => ?_)
  congr 1
  exact suI_cg n (fun b hb => by rw [h a b ha hb])
theorem MCst_cg (h : ∀ a b, a < n → b < n → c a b = c' a b) (h1 : MCst c n s t e) : MCst c' n s t e := by
  obtain ⟨a1, S, a2, a3, a4⟩ := h1
  exact ⟨fun S' b1 b2 => by rw [← cutC_cg h]; exact a1 S' b1 b2, S, a2, a3, by rw [← cutC_cg h]; exact a4⟩
theorem cutC_ext (hm : m ≤ n) (h : ∀ a b, a < n → b < n → (m ≤ a ∨ m ≤ b) → c a b = 0) : cutC c S n = cutC c S m := by
  unfold cutC
  rw [suI_ext hm (fun a h1 h2 => ?_)]
  · refine suI_cg m (fun a ha => ?_)
    rw [suI_ext hm (fun b h1 h2 => ?_)]
    rw [h a b (by omega) h2 (Or.inr h1)]
    cases S b <;> rfl
  · rw [suI_z n (fun b hb => by rw [h a b h2 hb (Or.inl h1)]; cases S b <;> rfl)]
    cases S a <;> rfl
theorem MCst_ext (hm : m ≤ n) (h : ∀ a b, a < n → b < n → (m ≤ a ∨ m ≤ b) → c a b = 0) (h1 : MCst c n s t e) : MCst c m s t e := by
  obtain ⟨a1, S, a2, a3, a4⟩ := h1
  exact ⟨fun S' b1 b2 => by rw [← cutC_ext hm h]; exact a1 S' b1 b2, S, a2, a3, by rw [← cutC_ext hm h]; exact a4⟩
theorem cutC_1 (hs : s < n) (hc : ∀ a b, a < n → b < n → 0 ≤ c a b ∧ c a b ≤ 99) : cutC c (fun a => decide (a = s)) n ≤ 99 * n := by
  have e1 : ∀ m, suI (fun _ => (99 : Int)) m = 99 * m := by
    intro m
    induction m with
    | zero => rfl
    | succ m ih => show suI _ m + 99 = _; rw [ih]; omega
  have q : cutC c (fun a => decide (a = s)) n ≤ suI (fun a => if a = s then 99 * (n : Int) else 0) n := by
    unfold cutC
    refine suI_le n (fun a ha => ?_)
    by_cases e : a = s
    · show bz (decide (a = s)) _ ≤ _
      rw [decide_eq_true e, if_pos e, bz_t, ← e1 n]
      refine suI_le n (fun b hb => ?_)
      have := hc a b ha hb
      unfold bz
      split <;> omega
    · show bz (decide (a = s)) _ ≤ _
      rw [decide_eq_false e, if_neg e, bz_f]
      exact Int.le_refl _
  rw [suI_one n hs] at q
  exact q
theorem two_T {d : Int} (hS : SK w) (h0 : EV0 w) (hfl : ∀ a b, a < 10 → b < 10 → fwR w a b = 0) (hc : ∀ a b, a < 10 → b < 10 → cR w a b = c a b) (hc0 : ∀ a b, a < 10 → b < 10 → 0 ≤ c a b) (hs : s < 10) (ht : t < 10) (hst : s ≠ t) (hd : 0 ≤ d) (ho : ∀ a, a < 10 → ovR w a = (if a = s then d else 0) - (if a = t then d else 0)) (h : PS X k 278 0 [.ref 147, pm_dead, pm_dead, pm_dead, pm_dead] [] w r w') : FM [] [162, 163, 164] w w' ∧ ∃ (b : Bool) (T : Int), r = some (.int (b2i b)) ∧ MCo c (ovR w) 10 T ∧ (b = true → d = T) ∧ (b = false → d - ovR w' s = T) ∧ 0 ≤ ovR w' s ∧ ovR w' s ≤ d := by
  obtain ⟨f1, b, a1, a2, a3, a4⟩ := F278 hS h0 hfl (fun a b ha hb _ => by rw [hc a b ha hb]; exact hc0 a b ha hb) h
  have e1 : suI (fun a => psI (ovR w a)) 10 = d := by
    rw [show suI (fun a => psI (ovR w a)) 10 = suI (fun a => if a = s then d else 0) 10 from suI_cg 10 (fun a ha => by
      rw [ho a ha]
      unfold psI
      by_cases e1 : a = s
      · rw [if_pos e1, if_neg (fun z => hst (e1.symm.trans z))]; omega
      · rw [if_neg e1]
        by_cases e2 : a = t
        · rw [if_pos e2]; omega
        · rw [if_neg e2]; omega), suI_one 10 hs]
  obtain ⟨o1, o2⟩ := a3 s hs
  have hos := ho s hs
  rw [if_pos rfl, if_neg hst] at hos
  have os := o1 (by omega)
  have e2 : suI (fun a => psI (ovR w' a)) 10 = ovR w' s := by
    rw [show suI (fun a => psI (ovR w' a)) 10 = suI (fun a => if a = s then ovR w' s else 0) 10 from suI_cg 10 (fun a ha => by
      obtain ⟨q1, q2⟩ := a3 a ha
      have oa := ho a ha
      unfold psI
      by_cases e1 : a = s
      · rw [if_pos e1, e1]; omega
      · rw [if_neg e1]
        rw [if_neg e1] at oa
        have : 0 ≤ (if a = t then d else 0) := by split <;> omega
        have := q2 (by omega)
        omega), suI_one 10 hs]
  rw [e1, e2] at a2
  have cg : ∀ S : Nat → Bool, CUTo (cR w) (ovR w) S 10 = CUTo c (ovR w) S 10 := fun S => by unfold CUTo; rw [cutC_cg hc]
  have a2 : MCo c (ovR w) 10 (d - ovR w' s) := ⟨fun S => by rw [← cg]; exact a2.1 S, a2.2.elim (fun S q => ⟨S, by rw [← cg]; exact q⟩)⟩
  refine ⟨f1, b, _, a1, a2, fun hb => ?_, fun _ => rfl, os.1, by omega⟩
  have := (a4.mp hb) s hs
  omega
theorem two_val {d : Int} (hS : SK w) (h0 : EV0 w) (hfl : ∀ a b, a < 10 → b < 10 → fwR w a b = 0) (hc : ∀ a b, a < 10 → b < 10 → cR w a b = c a b) (hc0 : ∀ a b, a < 10 → b < 10 → 0 ≤ c a b) (hs : s < 10) (ht : t < 10) (hst : s ≠ t) (hd : 0 ≤ d) (ho : ∀ a, a < 10 → ovR w a = (if a = s then d else 0) - (if a = t then d else 0)) (hm : MCst c 10 s t e) (h : PS X k 278 0 [.ref 147, pm_dead, pm_dead, pm_dead, pm_dead] [] w r w') : FM [] [162, 163, 164] w w' ∧ ∃ b : Bool, r = some (.int (b2i b)) ∧ (b = true → d = min d e) ∧ (b = false → d - ovR w' s = min d e) ∧ 0 ≤ ovR w' s ∧ ovR w' s ≤ d := by
  obtain ⟨f1, b, T, a1, a2, a3, a4, a5, a6⟩ := two_T hS h0 hfl hc hc0 hs ht hst hd ho h
  have u := MCo_uq a2 (MC_two (o := ovR w) hs ht hst hd ho hm (fun a b ha hb _ => hc0 a b ha hb))
  exact ⟨f1, b, a1, fun hb => by rw [a3 hb]; rw [← a3 hb] at u ⊢; exact u, fun hb => by rw [a4 hb]; exact u, a5, a6⟩
/-- as much as one likes is given: what goes through is the least cut -/
theorem MC_big {d : Int} (hs : s < n) (ht : t < n) (hst : s ≠ t) (hd : 99 * (n : Int) < d) (hc : ∀ a b, a < n → b < n → 0 ≤ c a b ∧ c a b ≤ 99) (ho : ∀ a, a < n → o a = (if a = s then d else 0) - (if a = t then d else 0)) (h : MCo c o n e) : MCst c n s t e := by
  have nn : (0 : Int) ≤ 99 * (n : Int) := by omega
  have val : ∀ S : Nat → Bool, CUTo c o S n = bz (!S s) d + bz (S t) d + cutC c S n := by
    intro S
    unfold CUTo
    congr 1
    rw [show suI (fun a => bz (!S a) (psI (o a)) + bz (S a) (psI (-o a))) n = suI (fun a => (if a = s then bz (!S s) d else 0) + (if a = t then bz (S t) d else 0)) n from suI_cg n (fun a ha => by
      rw [ho a ha]
      by_cases e1 : a = s
      · rw [e1, if_pos rfl, if_neg hst, if_pos rfl, if_neg hst]
        cases S s
        · show psI (d - 0) + 0 = d + 0
          unfold psI; omega
        · show 0 + psI (-(d - 0)) = 0 + 0
          unfold psI; omega
      · by_cases e2 : a = t
        · rw [if_neg e1, if_neg e1, e2, if_pos rfl, if_pos rfl]
          cases S t
          · show psI (0 - d) + 0 = 0 + 0
            unfold psI; omega
          · show 0 + psI (-(0 - d)) = 0 + d
            unfold psI; omega
        · rw [if_neg e1, if_neg e1, if_neg e2, if_neg e2]
          cases S a <;> rfl), suI_add n, suI_one n hs, suI_one n ht]
  have cnn : ∀ S : Nat → Bool, 0 ≤ cutC c S n := by
    intro S
    unfold cutC
    refine suI_nn (fun a ha => ?_)
    cases hS : S a with
    | false => exact Int.le_refl _
    | true =>
      rw [bz_t]
      refine suI_nn (fun b hb => ?_)
      cases S b
      · exact (hc a b ha hb).1
      · exact Int.le_refl _
  obtain ⟨h1, S0, h2⟩ := h
  have lo : e ≤ 99 * n := by
    have q := h1 (fun a => decide (a = s))
    rw [val, decide_eq_true (show s = s from rfl), decide_eq_false (show ¬ t = s from fun z => hst z.symm)] at q
    have c1 := cutC_1 hs hc
    have q : e ≤ 0 + 0 + cutC c (fun a => decide (a = s)) n := q
    omega
  have c0 := cnn S0
  rw [val] at h2
  have a1 : S0 s = true := by
    cases hh : S0 s with
    | true => rfl
    | false =>
      rw [hh] at h2
      have : 0 ≤ bz (S0 t) d := by cases S0 t <;> first | exact Int.le_refl _ | (show 0 ≤ d; omega)
      have h2 : e = d + bz (S0 t) d + cutC c S0 n := h2
      omega
  have a2 : S0 t = false := by
    cases hh : S0 t with
    | false => rfl
    | true =>
      rw [hh, a1] at h2
      have h2 : e = 0 + d + cutC c S0 n := h2
      omega
  refine ⟨fun S b1 b2 => ?_, S0, a1, a2, ?_⟩
  · have q := h1 S
    rw [val, b1, b2] at q
    have q : e ≤ 0 + 0 + cutC c S n := q
    omega
  · rw [a1, a2] at h2
    have h2 : e = 0 + 0 + cutC c S0 n := h2
    omega
/-! laying the rooms -/
theorem moR_s (hS : SK w) (ha : a < 10) (hb : b < 10) (hx : x.toInt = (10 * a + b : Nat)) (i j : Nat) (hi : i < 10) (hj : j < 10) : moR (aS w 161 x y) i j = if i = a ∧ j = b then y.toInt else moR w i j := by
  unfold moR
  rw [gA_aS (SK_isA hS (by decide +kernel)), i_nat hx, getD_set (by rw [l161 hS]; omega)]
  by_cases e : i = a ∧ j = b
  · rw [if_pos (by omega), if_pos e]
  · rw [if_neg (by omega), if_neg e]
def Z4 (w : pm_W) : Prop := (∀ i, i < 100 → (gA w 160).getD i 0 = 0 ∧ (gA w 161).getD i 0 = 0 ∧ (gA w 162).getD i 0 = 0) ∧ ∀ i, i < 10 → (gA w 163).getD i 0 = 0
theorem F277 (hS : SK w) (h : PS X k 277 0 [.ref 147, pm_dead] [] w r w') : r = none ∧ FM [] [160, 161, 162, 163] w w' ∧ Z4 w' := by
  have e100 : (100 : Int32).toInt = 100 := by decide +kernel
  have lp2 : ∀ (k A : Nat) (w1 : pm_W) (i1 : Int32), FM [] [160, 161, 162, 163] w w1 → i1.toInt = A → A ≤ 10 → (∀ i, i < 100 → (gA w1 160).getD i 0 = 0 ∧ (gA w1 161).getD i 0 = 0 ∧ (gA w1 162).getD i 0 = 0) → (∀ i, i < A → (gA w1 163).getD i 0 = 0) → PS X k 277 37 [.ref 147, .int i1] [] w1 r w' → r = none ∧ FM [] [160, 161, 162, 163] w w' ∧ Z4 w' := by
    intro k
    induction k with
    | zero => intro A w1 i1 _ _ _ _ _ h; exact (PS_0 h).elim
    | succ k ih =>
      intro A w1 i1 fm h1 hA hz ho h
      have S1 : SK w1 := fm.2.2.2
      have h := U277_37 S1 h
      by_cases c : 10 ≤ i1
      · rw [if_pos c] at h
        rw [Int32.le_iff_toInt_le, ten32, h1] at c
        rw [h.2]
        exact ⟨h.1, fm, hz, fun i hi => ho i (by omega)⟩
      · rw [if_neg c] at h
        rw [Int32.le_iff_toInt_le, ten32, h1] at c
        obtain ⟨_, h⟩ := h
        have h := h _ rfl
        refine ih (A + 1) _ _ (FM_trans fm (FM_aS S1 (by decide))) (by rw [zi_inc (n := 200) (by omega) (by omega), h1]; rfl) (by omega) (fun i hi => ?_) (fun i hi => ?_) h
        · rw [gA_aS_ne (by decide), gA_aS_ne (by decide), gA_aS_ne (by decide)]; exact hz i hi
        · rw [gA_aS (SK_isA S1 (by decide +kernel)), i_nat h1, getD_set (by rw [l163 S1]; omega)]
          by_cases e : i = A
          · rw [if_pos e]
          · rw [if_neg e]; exact ho i (by omega)
  have lp : ∀ (k A : Nat) (w1 : pm_W) (i1 : Int32), FM [] [160, 161, 162, 163] w w1 → i1.toInt = A → A ≤ 100 → (∀ i, i < A → (gA w1 160).getD i 0 = 0 ∧ (gA w1 161).getD i 0 = 0 ∧ (gA w1 162).getD i 0 = 0) → PS X k 277 2 [.ref 147, .int i1] [] w1 r w' → r = none ∧ FM [] [160, 161, 162, 163] w w' ∧ Z4 w' := by
    intro k
    induction k with
    | zero => intro A w1 i1 _ _ _ _ h; exact (PS_0 h).elim
    | succ k ih =>
      intro A w1 i1 fm h1 hA hz h
      have S1 : SK w1 := fm.2.2.2
      have h := U277_2 S1 h
      by_cases c : 100 ≤ i1
      · rw [if_pos c] at h
        rw [Int32.le_iff_toInt_le, e100, h1] at c
        exact lp2 k 0 w1 0 fm z32 (Nat.zero_le _) (fun i hi => hz i (by omega)) (fun i hi => absurd hi (Nat.not_lt_zero i)) h
      · rw [if_neg c] at h
        rw [Int32.le_iff_toInt_le, e100, h1] at c
        obtain ⟨_, h⟩ := h
        obtain ⟨_, h⟩ := h _ rfl
        obtain ⟨_, h⟩ := h _ rfl
        have h := h _ rfl
        have S2 : SK (aS w1 160 i1 0) := SK_aS S1
        have S3 : SK (aS (aS w1 160 i1 0) 161 i1 0) := SK_aS S2
        refine ih (A + 1) _ _ (FM_trans fm (FM_trans (FM_aS S1 (by decide)) (FM_trans (FM_aS S2 (by decide)) (FM_aS S3 (by decide))))) (by rw [zi_inc (n := 200) (by omega) (by omega), h1]; rfl) (by omega) (fun i hi => ?_) h
        have a1 : (gA (aS (aS (aS w1 160 i1 0) 161 i1 0) 162 i1 0) 160).getD i 0 = if i = A then 0 else (gA w1 160).getD i 0 := by
          rw [gA_aS_ne (by decide), gA_aS_ne (by decide), gA_aS (SK_isA S1 (by decide +kernel)), i_nat h1, getD_set (by rw [l160 S1]; omega)]
        have a2 : (gA (aS (aS (aS w1 160 i1 0) 161 i1 0) 162 i1 0) 161).getD i 0 = if i = A then 0 else (gA w1 161).getD i 0 := by
          rw [gA_aS_ne (by decide), gA_aS (SK_isA S2 (by decide +kernel)), i_nat h1, getD_set (by rw [l161 S2]; omega), gA_aS_ne (by decide)]
        have a3 : (gA (aS (aS (aS w1 160 i1 0) 161 i1 0) 162 i1 0) 162).getD i 0 = if i = A then 0 else (gA w1 162).getD i 0 := by
          rw [gA_aS (SK_isA S3 (by decide +kernel)), i_nat h1, getD_set (by rw [l162 S3]; omega), gA_aS_ne (by decide), gA_aS_ne (by decide)]
        rw [a1, a2, a3]
        by_cases e : i = A
        · rw [if_pos e, if_pos e, if_pos e]; exact ⟨rfl, rfl, rfl⟩
        · rw [if_neg e, if_neg e, if_neg e]; exact hz i (by omega)
  cases k with
  | zero => exact (PS_0 h).elim
  | succ k => exact lp k 0 w 0 (FM_refl hS) z32 (Nat.zero_le _) (fun i hi => absurd hi (Nat.not_lt_zero i)) (U277_0 hS h)
/-- the rooms of a village u between its P people -/
def rmA (w : pm_W) (u i j : Nat) : Int := (rmI (fun k => al w (610 + 132 * u + k)) (dR w) i j).toInt
/-- laid up to A, B -/
def LAYm (w0 w : pm_W) (u P A B : Nat) : Prop := FM [] [160, 161, 162, 163] w0 w ∧ (∀ i j, i < 10 → j < 10 → moR w i j = if (i < A ∧ j < P) ∨ (i = A ∧ j < B) then rmA w0 u i j else 0) ∧ (∀ i, i < 100 → (gA w 160).getD i 0 = 0 ∧ (gA w 162).getD i 0 = 0) ∧ ∀ i, i < 10 → (gA w 163).getD i 0 = 0
theorem LAY_0 (f : FM [] [160, 161, 162, 163] w0 w) (h : Z4 w) : LAYm w0 w u P 0 0 := by
  refine ⟨f, fun i j hi hj => ?_, fun i hi => ⟨(h.1 i hi).1, (h.1 i hi).2.2⟩, h.2⟩
  rw [if_neg (by omega)]
  unfold moR
  rw [(h.1 _ (by omega)).2.1, z32]
theorem LAY_n (h : LAYm w0 w u P A P) : LAYm w0 w u P (A + 1) 0 := by
  refine ⟨h.1, fun i j hi hj => ?_, h.2.2⟩
  rw [h.2.1 i j hi hj]
  by_cases c : (i < A ∧ j < P) ∨ (i = A ∧ j < P)
  · rw [if_pos c, if_pos (by omega)]
  · rw [if_neg c, if_neg (by omega)]
theorem LAY_s (hS : SK w) (h : LAYm w0 w u P A B) (hA : A < 10) (hB : B < P) (hP : P ≤ 9) (hx : x.toInt = (10 * A + B : Nat)) (hy : y.toInt = rmA w0 u A B) : LAYm w0 (aS w 161 x y) u P A (B + 1) := by
  refine ⟨FM_trans h.1 (FM_aS hS (by decide)), fun i j hi hj => ?_, fun i hi => ?_, fun i hi => ?_⟩
  · rw [moR_s hS hA (by omega) hx i j hi hj, h.2.1 i j hi hj]
    by_cases e : i = A ∧ j = B
    · rw [if_pos e, hy, if_pos (by omega), e.1, e.2]
    · rw [if_neg e]
      by_cases c : (i < A ∧ j < P) ∨ (i = A ∧ j < B)
      · rw [if_pos c, if_pos (by omega)]
      · rw [if_neg c, if_neg (by omega)]
  · rw [gA_aS_ne (by decide), gA_aS_ne (by decide)]; exact h.2.2.1 i hi
  · rw [gA_aS_ne (by decide)]; exact h.2.2.2 i hi
theorem rmI_hi {V D : Nat → Int32} (hV : VW V) (hD : ∀ q, 0 ≤ (D q).toInt ∧ (D q).toInt ≤ 99) (hi : i < 9) (hj : j < 9) : 0 ≤ (rmI V D i j).toInt ∧ (rmI V D i j).toInt ≤ 99 := by
  have v := hV (9 * j + i) (by omega)
  have d := hD (9 * i + j)
  have e : (V (3 + (9 * j + i)) - D (9 * i + j)).toInt = (V (3 + (9 * j + i))).toInt - (D (9 * i + j)).toInt := zi_sub rfl rfl (by omega) (by omega)
  unfold rmI
  by_cases c : i = j
  · rw [if_pos c, z32]; omega
  · rw [if_neg c]
    by_cases c2 : 0 < (V (3 + (9 * j + i)) - D (9 * i + j)).toInt
    · rw [if_pos c2, e]; omega
    · rw [if_neg c2, z32]; omega
/-- behind the laying: two are given what they have and want -/
theorem LAY_ev (h : LAYm w0 w u P P 0) (hP : P ≤ 9) (hr : ∀ i j, i < P → j < P → 0 ≤ rmA w0 u i j ∧ rmA w0 u i j ≤ 99) (ho : ∀ a, a < 10 → -1000000 ≤ ovR w1 a ∧ ovR w1 a ≤ 1000000) (f : FM [] [163] w w1) : EV0 w1 ∧ (∀ a b, a < 10 → b < 10 → fwR w1 a b = 0) ∧ ∀ a b, a < 10 → b < 10 → cR w1 a b = cpW (rmA w0 u) P a b := by
  have em : moR w1 = moR w := mo_fm f (by decide)
  have el : loR w1 = loR w := lo_fm f (by decide)
  have ef : fwR w1 = fwR w := fw_fm f (by decide)
  have l0 : ∀ a b, a < 10 → b < 10 → loR w a b = 0 := fun a b ha hb => by unfold loR; rw [(h.2.2.1 _ (by omega)).1, z32]
  have m0 : ∀ a b, a < 10 → b < 10 → moR w a b = cpW (rmA w0 u) P a b := fun a b ha hb => by
    rw [h.2.1 a b ha hb]
    unfold cpW
    by_cases c : a < P ∧ b < P
    · rw [if_pos c, if_pos (Or.inl c)]
    · rw [if_neg c, if_neg (by omega)]
  have cp : ∀ a b, 0 ≤ cpW (rmA w0 u) P a b ∧ cpW (rmA w0 u) P a b ≤ 99 := by
    intro a b
    unfold cpW
    by_cases c : a < P ∧ b < P
    · rw [if_pos c]; exact hr a b c.1 c.2
    · rw [if_neg c]; omega
  refine ⟨⟨fun a b ha hb => ?_, ho⟩, fun a b ha hb => ?_, fun a b ha hb => ?_⟩
  · unfold cR
    rw [em, el, l0 a b ha hb, m0 a b ha hb]
    have := cp a b
    omega
  · rw [ef]; unfold fwR; rw [(h.2.2.1 _ (by omega)).2, z32]
  · unfold cR
    rw [em, el, l0 a b ha hb, m0 a b ha hb]
    omega
end ILR
