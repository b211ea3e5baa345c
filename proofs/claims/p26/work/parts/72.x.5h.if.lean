/-! ===== the class's flows: a way, pushing along it, the most that goes through ===== -/
section IFW
variable {X : pm_X} {k k2 : Nat} {w0 w w1 w2 w3 w4 w' : pm_W} {r r2 q0 q1 q2 : Option Value} {p p1 p2 p3 p4 i1 i2 i3 i4 i5 i6 z z1 z2 x y : Int32} {i v j m u P t s b Q B I J K n a T : Nat} {ρ : Nat → Nat} {c : Nat → Nat → Int}
def frC (w : pm_W) (a b : Nat) : Int := ((gA w 80).getD (12 * a + b) 0).toInt
def cmF (w : pm_W) (x : Nat) : Int32 := (gA w 81).getD x 0
def quF (w : pm_W) (x : Nat) : Int32 := (gA w 82).getD x 0
theorem R79 (hS : SK w) : gR w 79 0 = 80 ∧ gR w 79 1 = 81 ∧ gR w 79 2 = 82 := ⟨sk_fix hS (by decide +kernel) (by decide), sk_fix hS (by decide +kernel) (by decide), sk_fix hS (by decide +kernel) (by decide)⟩
theorem l80 (hS : SK w) : (gA w 80).length = 144 := SK_len hS (a := 80) (n := 144) (by decide +kernel) (by decide)
theorem l81 (hS : SK w) : (gA w 81).length = 12 := SK_len hS (a := 81) (n := 12) (by decide +kernel) (by decide)
theorem l82 (hS : SK w) : (gA w 82).length = 12 := SK_len hS (a := 82) (n := 12) (by decide +kernel) (by decide)
theorem aI_lt (h : aI w a x) (hl : (gA w a).length = n) : 0 ≤ x.toInt ∧ x.toInt < n := by
  have q : iN x (gA w a).length := h
  rw [hl] at q
  exact q
theorem cmF_s (hS : SK w) (h : x.toInt = j) (hj : j < 12) (q : Nat) : cmF (aS w 81 x y) q = if q = j then y else cmF w q := by
  unfold cmF
  rw [gA_aS (SK_isA hS (by decide +kernel)), i_nat h, getD_set (by rw [l81 hS]; exact hj)]
theorem quF_s (hS : SK w) (h : x.toInt = j) (hj : j < 12) (q : Nat) : quF (aS w 82 x y) q = if q = j then y else quF w q := by
  unfold quF
  rw [gA_aS (SK_isA hS (by decide +kernel)), i_nat h, getD_set (by rw [l82 hS]; exact hj)]
theorem cmF_82 (q : Nat) : cmF (aS w 82 x y) q = cmF w q := by unfold cmF; rw [gA_aS_ne (by decide)]
theorem quF_81 (q : Nat) : quF (aS w 81 x y) q = quF w q := by unfold quF; rw [gA_aS_ne (by decide)]
/-- the queue, from whom each came -/
def QI (w0 w : pm_W) (s B : Nat) (ρ : Nat → Nat) : Prop := FM [] [81, 82] w0 w ∧ B ≤ 12 ∧ 1 ≤ B ∧ (cmF w s).toInt = s ∧ (∀ j, j < B → ∃ x : Nat, x < 12 ∧ (quF w j).toInt = x ∧ cmF w x ≠ -1 ∧ ρ x = j) ∧ (∀ x : Nat, x < 12 → cmF w x ≠ -1 → ∃ j, j < B ∧ (quF w j).toInt = x) ∧ ∀ x : Nat, x < 12 → cmF w x ≠ -1 → x = s ∨ ∃ p : Nat, p < 12 ∧ (cmF w x).toInt = p ∧ cmF w p ≠ -1 ∧ ρ p < ρ x ∧ 0 < frC w0 p x
/-- those before I have been looked at -/
def PRC (w0 w : pm_W) (I : Nat) : Prop := ∀ j, j < I → ∀ y : Nat, (quF w j).toInt = y → ∀ b, b < 12 → 0 < frC w0 y b → cmF w b ≠ -1
theorem m1_ne {v : Int32} (h : v.toInt = j) : v ≠ -1 := fun e => by
  rw [e] at h
  have z : ((-1 : Int32)).toInt = -1 := by decide +kernel
  omega
theorem QI_new (hQ : QI w0 w s B ρ) (hy : y.toInt = a) (ha : a < 12) (hla : cmF w a ≠ -1) (hra : ρ a < B) (hx : x.toInt = b) (hb : b < 12) (hlb : cmF w b = -1) (hfr : 0 < frC w0 a b) (hz : z.toInt = B) (hB : B < 12) : QI w0 (aS (aS w 81 x y) 82 z x) s (B + 1) (fun q => if q = b then B else ρ q) := by
  obtain ⟨fm, h1, h2, h3, h4, h5, h6⟩ := hQ
  have S1 : SK w := fm.2.2.2
  have S2 : SK (aS w 81 x y) := SK_aS S1
  have ec : ∀ q, cmF (aS (aS w 81 x y) 82 z x) q = if q = b then y else cmF w q := fun q => by rw [cmF_82, cmF_s S1 hx hb]
  have eq : ∀ q, quF (aS (aS w 81 x y) 82 z x) q = if q = B then x else quF w q := fun q => by rw [quF_s S2 hz hB, quF_81]
  have hsb : s ≠ b := fun e => by
    rw [e, hlb] at h3
    rw [show (-1 : Int32).toInt = -1 by decide +kernel] at h3
    omega
  refine ⟨FM_trans fm (FM_trans (FM_aS S1 (by decide)) (FM_aS S2 (by decide))), by omega, by omega, by rw [ec, if_neg hsb]; exact h3, fun j hj => ?_, fun q hq hl => ?_, fun q hq hl => ?_⟩
  · by_cases e : j = B
    · refine ⟨b, hb, by rw [eq, if_pos e]; exact hx, by rw [ec, if_pos rfl]; exact m1_ne hy, by show (if b = b then B else ρ b) = j; rw [if_pos rfl, e]⟩
    · obtain ⟨q, c1, c2, c3, c4⟩ := h4 j (by omega)
      have hqb : q ≠ b := fun e => by rw [e] at c3; exact c3 hlb
      exact ⟨q, c1, by rw [eq, if_neg e]; exact c2, by rw [ec, if_neg hqb]; exact c3, by show (if q = b then B else ρ q) = j; rw [if_neg hqb]; exact c4⟩
  · rw [ec] at hl
    by_cases e : q = b
    · exact ⟨B, by omega, by rw [eq, if_pos rfl, e]; exact hx⟩
    · rw [if_neg e] at hl
      obtain ⟨j, c1, c2⟩ := h5 q hq hl
      exact ⟨j, by omega, by rw [eq, if_neg (by omega)]; exact c2⟩
  · rw [ec] at hl ⊢
    by_cases e : q = b
    · right
      have hab : a ≠ b := fun e => by rw [e] at hla; exact hla hlb
      refine ⟨a, ha, by rw [if_pos e]; exact hy, by rw [ec, if_neg hab]; exact hla, by show (if a = b then B else ρ a) < (if q = b then B else ρ q); rw [if_neg hab, if_pos e]; exact hra, by rw [e]; exact hfr⟩
    · rw [if_neg e] at hl ⊢
      rcases h6 q hq hl with c | ⟨p, c1, c2, c3, c4, c5⟩
      · exact Or.inl c
      · right
        have hpb : p ≠ b := fun e => by rw [e] at c3; exact c3 hlb
        exact ⟨p, c1, c2, by rw [ec, if_neg hpb]; exact c3, by show (if p = b then B else ρ p) < (if q = b then B else ρ q); rw [if_neg hpb, if_neg e]; exact c4, c5⟩
/-- a way is found -/
def WAYc (w w' : pm_W) (s t : Nat) : Prop := ∃ (ρ : Nat → Nat) (B : Nat), QI w w' s B ρ ∧ cmF w' t ≠ -1
/-- none is found -/
def NOWc (w w' : pm_W) (s t : Nat) : Prop := cmF w' s ≠ -1 ∧ cmF w' t = -1 ∧ ∀ a b, a < 12 → b < 12 → cmF w' a ≠ -1 → cmF w' b = -1 → frC w a b ≤ 0
theorem F165_l (hS0 : SK w0) (h1 : p1.toInt = s) (h2 : p2.toInt = t) (hs : s < 12) (ht : t < 12) : ∀ k : Nat,
    (∀ (w : pm_W) (B I : Nat) (ρ : Nat → Nat) (i3 i4 : Int32) (u5 u6 : Value), i3.toInt = B → i4.toInt = I → I ≤ B → QI w0 w s B ρ → PRC w0 w I → cmF w t = -1 → PS X k 165 27 [.ref 79, .int p1, .int p2, .int i3, .int i4, u5, u6] [] w r w' → FM [] [81, 82] w0 w' ∧ ((r = some (.int 0) ∧ NOWc w0 w' s t) ∨ (r = some (.int 1) ∧ WAYc w0 w' s t))) ∧
    (∀ (w : pm_W) (B I J : Nat) (ρ : Nat → Nat) (i3 i4 i5 i6 : Int32), i3.toInt = B → i4.toInt = I → I < B → i6.toInt = J → J ≤ 12 → quF w I = i5 → QI w0 w s B ρ → PRC w0 w I → (∀ y : Nat, i5.toInt = y → ∀ b, b < J → 0 < frC w0 y b → cmF w b ≠ -1) → PS X k 165 52 [.ref 79, .int p1, .int p2, .int i3, .int i4, .int i5, .int i6] [] w r w' → FM [] [81, 82] w0 w' ∧ ((r = some (.int 0) ∧ NOWc w0 w' s t) ∨ (r = some (.int 1) ∧ WAYc w0 w' s t))) := by
  have e12 : (12 : Int32).toInt = 12 := by decide +kernel
  intro k
  induction k with
  | zero => exact ⟨fun _ _ _ _ _ _ _ _ _ _ _ _ _ _ h => (PS_0 h).elim, fun _ _ _ _ _ _ _ _ _ _ _ _ _ _ _ _ _ _ h => (PS_0 h).elim⟩
  | succ k ih =>
    obtain ⟨ih27, ih52⟩ := ih
    refine ⟨fun w B I ρ i3 i4 u5 u6 h3 h4 hI hQ hP hn h => ?_, fun w B I J ρ i3 i4 i5 i6 h3 h4 hI h6 hJ h5 hQ hP hr h => ?_⟩
    · have hS : SK w := hQ.1.2.2.2
      obtain ⟨g0, g1, g2⟩ := R79 hS
      have h := U165_27 hS h
      rw [g2] at h
      have none_ : B ≤ I → r = some (.int 0) ∧ w' = w → FM [] [81, 82] w0 w' ∧ ((r = some (.int 0) ∧ NOWc w0 w' s t) ∨ (r = some (.int 1) ∧ WAYc w0 w' s t)) := by
        rintro hB ⟨a1, a2⟩
        subst a2
        refine ⟨hQ.1, Or.inl ⟨a1, m1_ne hQ.2.2.2.1, hn, fun a b ha hb hla hlb => ?_⟩⟩
        obtain ⟨j, c1, c2⟩ := hQ.2.2.2.2.2.1 a ha hla
        have q := hP j (by omega) a c2 b hb
        by_cases c : 0 < frC w0 a b
        · exact absurd hlb (q c)
        · omega
      by_cases c : i3 ≤ i4
      · rw [if_pos c] at h
        rw [Int32.le_iff_toInt_le, h3, h4] at c
        exact none_ (by omega) h
      · rw [if_neg c] at h
        rw [Int32.le_iff_toInt_le, h3, h4] at c
        by_cases c2 : 12 ≤ i4
        · rw [if_pos c2] at h
          rw [Int32.le_iff_toInt_le, e12, h4] at c2
          have := hQ.2.1
          omega
        · rw [if_neg c2] at h
          obtain ⟨_, h⟩ := h
          have e5 : aG w 82 i4 = quF w I := aG_n h4
          rw [e5] at h
          exact ih52 w B I 0 ρ i3 i4 _ 0 h3 h4 (by omega) z32 (by omega) rfl hQ hP (fun y _ b hb => absurd hb (Nat.not_lt_zero b)) h
    · have hS : SK w := hQ.1.2.2.2
      obtain ⟨g0, g1, g2⟩ := R79 hS
      have h := U165_52 hS h
      rw [g1, g0] at h
      obtain ⟨y, hy12, hy, hly, hρy⟩ := hQ.2.2.2.2.1 I hI
      rw [h5] at hy
      by_cases c : 12 ≤ i6
      · rw [if_pos c] at h
        rw [Int32.le_iff_toInt_le, e12, h6] at c
        obtain ⟨_, h⟩ := h
        rw [show aG w 81 p2 = cmF w t from aG_n h2] at h
        by_cases c2 : cmF w t = -1
        · rw [if_pos c2] at h
          refine ih27 w B (I + 1) ρ i3 _ _ _ h3 (by rw [zi_inc (n := 40) (by have := hQ.2.1; omega) (by omega), h4]; rfl) (by omega) hQ (fun j hj y' hy' b hb hf => ?_) c2 h
          by_cases e : j = I
          · rw [e, h5] at hy'
            exact hr y' hy' b (by omega) hf
          · exact hP j (by omega) y' hy' b hb hf
        · rw [if_neg c2] at h
          rw [h.2]
          exact ⟨hQ.1, Or.inr ⟨h.1, ρ, B, hQ, c2⟩⟩
      · rw [if_neg c] at h
        rw [Int32.le_iff_toInt_le, e12, h6] at c
        have hJ12 : J < 12 := by omega
        have e1 : (i6 + 1).toInt = ((J + 1 : Nat) : Int) := by rw [zi_inc (n := 40) (by omega) (by omega), h6]; rfl
        obtain ⟨_, h⟩ := h
        have e6 : aG w 81 i6 = cmF w J := aG_n h6
        rw [e6] at h
        have skip : (0 < frC w0 y J → cmF w J ≠ -1) → PS X k 165 52 [.ref 79, .int p1, .int p2, .int i3, .int i4, .int i5, .int (i6 + 1)] [] w r w' → FM [] [81, 82] w0 w' ∧ ((r = some (.int 0) ∧ NOWc w0 w' s t) ∨ (r = some (.int 1) ∧ WAYc w0 w' s t)) := by
          intro hc h
          refine ih52 w B I (J + 1) ρ i3 i4 i5 _ h3 h4 hI e1 (by omega) h5 hQ hP (fun y' hy' b hb hf => ?_) h
          by_cases e : b = J
          · have : y' = y := by omega
            rw [e, this] at hf
            rw [e]
            exact hc hf
          · exact hr y' hy' b (by omega) hf
        by_cases c2 : cmF w J = -1
        · rw [if_pos c2] at h
          obtain ⟨_, h⟩ := h
          have ef : (aG w 80 (i5 * 12 + i6)).toInt = frC w0 y J := by
            rw [aG_n (m := 12 * y + J) (by rw [zi_add (zi_mul hy e12 (by omega) (by omega)) h6 (by omega) (by omega)]; omega), FM_a hQ.1 (by decide)]
            rfl
          by_cases c3 : aG w 80 (i5 * 12 + i6) ≤ 0
          · rw [if_pos c3] at h
            rw [Int32.le_iff_toInt_le, ef, z32] at c3
            exact skip (fun q => by omega) h
          · rw [if_neg c3] at h
            rw [Int32.le_iff_toInt_le, ef, z32] at c3
            obtain ⟨_, h⟩ := h
            have h := h _ rfl
            have S1 : SK (aS w 81 i6 i5) := SK_aS hS
            rw [(R79 S1).2.2] at h
            obtain ⟨hi, h⟩ := h
            have h := h _ rfl
            have hB := aI_lt hi (l82 S1)
            rw [h3] at hB
            have hQ' := QI_new hQ hy hy12 hly (by omega) h6 hJ12 c2 (by omega) h3 (by omega)
            have ec : ∀ q, cmF (aS (aS w 81 i6 i5) 82 i3 i6) q = if q = J then i5 else cmF w q := fun q => by rw [cmF_82, cmF_s hS h6 hJ12]
            have eq : ∀ q, quF (aS (aS w 81 i6 i5) 82 i3 i6) q = if q = B then i6 else quF w q := fun q => by rw [quF_s S1 h3 (by omega), quF_81]
            have up : ∀ q, cmF w q ≠ -1 → cmF (aS (aS w 81 i6 i5) 82 i3 i6) q ≠ -1 := by
              intro q hq
              rw [ec]
              by_cases e : q = J
              · rw [if_pos e]; exact m1_ne hy
              · rw [if_neg e]; exact hq
            refine ih52 _ (B + 1) I (J + 1) _ _ i4 i5 _ (by rw [zi_inc (n := 40) (by omega) (by omega), h3]; rfl) h4 (by omega) e1 (by omega) (by rw [eq, if_neg (by omega)]; exact h5) hQ' (fun j hj y' hy' b hb hf => ?_) (fun y' hy' b hb hf => ?_) h
            · rw [eq, if_neg (by omega)] at hy'
              exact up _ (hP j hj y' hy' b hb hf)
            · by_cases e : b = J
              · rw [e, ec, if_pos rfl]; exact m1_ne hy
              · exact up _ (hr y' hy' b (by omega) hf)
        · rw [if_neg c2] at h
          exact skip (fun _ => c2) h
theorem F165 (hS : SK w) (h1 : p1.toInt = s) (h2 : p2.toInt = t) (hs : s < 12) (ht : t < 12) (hst : s ≠ t) (h : PS X k 165 0 [.ref 79, .int p1, .int p2, pm_dead, pm_dead, pm_dead, pm_dead] [] w r w') : FM [] [81, 82] w w' ∧ ((r = some (.int 0) ∧ NOWc w w' s t) ∨ (r = some (.int 1) ∧ WAYc w w' s t)) := by
  cases k with
  | zero => exact (PS_0 h).elim
  | succ k =>
    obtain ⟨q1, w2, y, h⟩ := U165_0 hS h
    rw [(R79 hS).2.1] at y
    obtain ⟨e1, f1, l1⟩ := F20_n (N := 12) hS (by decide +kernel) (l81 hS) (by decide) y
    have S2 : SK w2 := f1.2.2.2
    have h := h e1 S2
    rw [(R79 S2).2.1] at h
    obtain ⟨_, h⟩ := h
    have h := h _ rfl
    have S3 : SK (aS w2 81 p1 p1) := SK_aS S2
    rw [(R79 S3).2.2] at h
    obtain ⟨_, h⟩ := h
    have h := h _ rfl
    have ec : ∀ q, cmF (aS (aS w2 81 p1 p1) 82 0 p1) q = if q = s then p1 else cmF w2 q := fun q => by rw [cmF_82, cmF_s S2 h1 hs]
    have eq : ∀ q, quF (aS (aS w2 81 p1 p1) 82 0 p1) q = if q = 0 then p1 else quF w2 q := fun q => by rw [quF_s S3 z32 (by decide), quF_81]
    have lo : ∀ q, q < 12 → cmF (aS (aS w2 81 p1 p1) 82 0 p1) q ≠ -1 → q = s := by
      intro q hq hl
      rw [ec] at hl
      by_cases e : q = s
      · exact e
      · rw [if_neg e] at hl
        exact absurd (l1 q hq) hl
    refine (F165_l hS h1 h2 hs ht k).1 _ 1 0 (fun _ => 0) _ _ _ _ o32 z32 (by omega) ⟨FM_trans (FM_mono f1 (by intro x hx; cases hx) (by decide)) (FM_trans (FM_aS S2 (by decide)) (FM_aS S3 (by decide))), by omega, by omega, by rw [ec, if_pos rfl]; exact h1, fun j hj => ?_, fun q hq hl => ?_, fun q hq hl => Or.inl (lo q hq hl)⟩ (fun j hj => absurd hj (Nat.not_lt_zero j)) (by rw [ec, if_neg (fun e => hst e.symm)]; exact l1 t ht) h
    · exact ⟨s, hs, by rw [eq, if_pos (by omega)]; exact h1, by rw [ec, if_pos rfl]; exact m1_ne h1, by show (0 : Nat) = j; omega⟩
    · exact ⟨0, by omega, by rw [eq, if_pos rfl, lo q hq hl]; exact h1⟩
end IFW
