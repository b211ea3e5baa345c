section
/-! ===== ways back, pushing along ===== -/
section IEP
variable {n m i j s t k x a p : Nat} {c r r' r0 : Nat → Nat → Int} {pr ρ : Nat → Nat} {lab root : Nat → Bool} {d : Int}
def itr (pr : Nat → Nat) (x : Nat) : Nat → Nat
  | 0 => x
  | j + 1 => pr (itr pr x j)
/-- each that is labelled is a root or has a labelled one before it -/
def PTH (n : Nat) (pr : Nat → Nat) (lab root : Nat → Bool) (ρ : Nat → Nat) : Prop := ∀ x, x < n → lab x = true → root x = true ∨ (pr x < n ∧ lab (pr x) = true ∧ ρ (pr x) < ρ x)
theorem itr_in (h : PTH n pr lab root ρ) (hx : x < n) (hl : lab x = true) : ∀ j, (∀ i, i < j → root (itr pr x i) = false) → itr pr x j < n ∧ lab (itr pr x j) = true ∧ ρ (itr pr x j) + j ≤ ρ x := by
  intro j
  induction j with
  | zero => intro _; exact ⟨hx, hl, Nat.le_refl _⟩
  | succ j ih =>
    intro hr
    obtain ⟨a1, a2, a3⟩ := ih (fun i hi => hr i (by omega))
    rcases h _ a1 a2 with q | ⟨q1, q2, q3⟩
    · rw [hr j (by omega)] at q; exact Bool.noConfusion q
    · refine ⟨q1, q2, ?_⟩
      show ρ (pr (itr pr x j)) + (j + 1) ≤ ρ x
      omega
theorem itr_add : ∀ j, itr pr (itr pr x i) j = itr pr x (i + j)
  | 0 => rfl
  | j + 1 => by show pr (itr pr (itr pr x i) j) = pr (itr pr x (i + j)); rw [itr_add j]
theorem itr_lt (h : PTH n pr lab root ρ) (hx : x < n) (hl : lab x = true) (hij : i < j) (hr : ∀ l, l < j → root (itr pr x l) = false) : ρ (itr pr x j) < ρ (itr pr x i) := by
  obtain ⟨a1, a2, _⟩ := itr_in h hx hl i (fun l hl => hr l (by omega))
  have q := itr_in h a1 a2 (j - i) (fun l hl => by rw [itr_add]; exact hr _ (by omega))
  rw [itr_add, show i + (j - i) = j by omega] at q
  omega
theorem itr_ne (h : PTH n pr lab root ρ) (hx : x < n) (hl : lab x = true) (hij : i < j) (hr : ∀ l, l < j → root (itr pr x l) = false) : itr pr x i ≠ itr pr x j := by
  have q := itr_lt h hx hl hij hr
  intro e
  rw [e] at q
  omega
/-- d more on the way from p to x -/
def PSH (r r' : Nat → Nat → Int) (n p x : Nat) (d : Int) : Prop := ∀ a b, a < n → b < n → r' a b = r a b - (if a = p ∧ b = x then d else 0) + (if a = x ∧ b = p then d else 0)
theorem PSH_gone (hp : p < n) (hx : x < n) (h : PSH r r' n p x d) (ha : a < n) : gone c r' n a = gone c r n a + (if a = p then d else 0) - (if a = x then d else 0) := by
  unfold gone
  have e : suI (fun b => c a b - r' a b) n = suI (fun b => (c a b - r a b) + ((if b = x then (if a = p then d else 0) else 0) - (if b = p then (if a = x then d else 0) else 0))) n := by
    refine suI_cg n (fun b hb => ?_)
    rw [h a b ha hb]
    by_cases e1 : a = p <;> by_cases e2 : b = x <;> by_cases e3 : a = x <;> by_cases e4 : b = p <;> simp [e1, e2, e3, e4] <;> omega
  have e2 : suI (fun b => (if b = x then (if a = p then d else 0) else 0) - (if b = p then (if a = x then d else 0) else 0)) n = (if a = p then d else 0) - (if a = x then d else 0) := by
    rw [suI_sub n, suI_one n hx, suI_one n hp]
  rw [e, suI_add n, e2]
  omega
theorem PSH_F (hne : p ≠ x) (hp : p < n) (hx : x < n) (hd : 0 ≤ d) (hF : FLW c r n) (h : PSH r r' n p x d) (hr : d ≤ r p x) : FLW c r' n := by
  refine ⟨fun a b ha hb hab => ?_, fun a b ha hb => ?_⟩
  · rw [h a b ha hb]
    have q := hF.1 a b ha hb hab
    by_cases e : a = p ∧ b = x
    · obtain ⟨e1, e2⟩ := e
      subst e1
      subst e2
      rw [if_pos ⟨rfl, rfl⟩, if_neg (fun z => hne z.1)]
      omega
    · rw [if_neg e]
      split <;> omega
  · rw [h a b ha hb, h b a hb ha]
    have q := hF.2 a b ha hb
    by_cases e1 : a = p ∧ b = x
    · obtain ⟨e1, e2⟩ := e1
      subst e1
      subst e2
      rw [if_pos ⟨rfl, rfl⟩, if_neg (fun z => hne z.1), if_neg (fun z => hne z.2), if_pos ⟨rfl, rfl⟩]
      omega
    · by_cases e2 : a = x ∧ b = p
      · obtain ⟨e2, e3⟩ := e2
        subst e2
        subst e3
        rw [if_neg (fun z => hne z.2), if_pos ⟨rfl, rfl⟩, if_pos ⟨rfl, rfl⟩, if_neg (fun z => hne z.1)]
        omega
      · rw [if_neg e1, if_neg e2, if_neg (fun z => e2 ⟨z.2, z.1⟩), if_neg (fun z => e1 ⟨z.2, z.1⟩)]
        omega
/-- where a way has been pushed along, up to its j-th -/
def PSJ (c r0 r : Nat → Nat → Int) (n : Nat) (pr : Nat → Nat) (x J j : Nat) (d : Int) : Prop := FLW c r n ∧ (∀ i, j ≤ i → i < J → d ≤ r (itr pr x (i + 1)) (itr pr x i)) ∧ ∀ a, a < n → gone c r n a = gone c r0 n a + (if a = itr pr x j then d else 0) - (if a = x then d else 0)
theorem PSJ_0 {J : Nat} (hF : FLW c r0 n) (h : ∀ i, i < J → d ≤ r0 (itr pr x (i + 1)) (itr pr x i)) : PSJ c r0 r0 n pr x J 0 d := by
  refine ⟨hF, fun i _ hi => h i hi, fun a _ => ?_⟩
  show _ = _ + (if a = x then d else 0) - _
  omega
theorem PSJ_s {J : Nat} (hP : PTH n pr lab root ρ) (hx : x < n) (hl : lab x = true) (hr : ∀ i, i < J → root (itr pr x i) = false) (hd : 0 ≤ d) (hj : j < J) (h : PSJ c r0 r n pr x J j d) (hp : PSH r r' n (itr pr x (j + 1)) (itr pr x j) d) : PSJ c r0 r' n pr x J (j + 1) d := by
  obtain ⟨h1, h2, h3⟩ := h
  obtain ⟨b1, _, _⟩ := itr_in hP hx hl (j + 1) (fun i hi => hr i (by omega))
  obtain ⟨b2, _, _⟩ := itr_in hP hx hl j (fun i hi => hr i (by omega))
  have ne := itr_ne hP hx hl (show j < j + 1 by omega) (fun i hi => hr i (by omega))
  refine ⟨PSH_F (fun e => ne e.symm) b1 b2 hd h1 hp (h2 j (Nat.le_refl j) hj), fun i hi hiJ => ?_, fun a ha => ?_⟩
  · obtain ⟨c1, _, _⟩ := itr_in hP hx hl (i + 1) (fun l hl => hr l (by omega))
    obtain ⟨c2, _, _⟩ := itr_in hP hx hl i (fun l hl => hr l (by omega))
    have n1 := itr_ne hP hx hl (show j < i by omega) (fun l hl => hr l (by omega))
    have n2 := itr_ne hP hx hl (show j < i + 1 by omega) (fun l hl => hr l (by omega))
    rw [hp _ _ c1 c2, if_neg (fun z => n1 z.2.symm), if_neg (fun z => n2 z.1.symm)]
    have := h2 i (by omega) hiJ
    omega
  · rw [PSH_gone b1 b2 hp ha, h3 a ha]
    omega
end IEP
end
section
/-! ===== the class's flows: a way, pushing along it, the most that goes through ===== -/
section IFW
variable {X : pm_X} {k k2 : Nat} {w0 w w1 w2 w3 w4 w' : pm_W} {r r2 q0 q1 q2 : Option Value} {p p1 p2 p3 p4 i1 i2 i3 i4 i5 i6 z z1 z2 x y : Int32} {i v j m u P t s b Q B I J K n a T : Nat} {ρ : Nat → Nat} {c : Nat → Nat → Int}
def frC (w : pm_W) (a b : Nat) : Int := ((gA w 80).getD (12 * a + b) 0).toInt
def cmF (w : pm_W) (x : Nat) : Int32 := (gA w 81).getD x 0
def quF (w : pm_W) (x : Nat) : Int32 := (gA w 82).getD x 0
theorem R79 (hS : SK w) : gR w 79 0 = 80 ∧ gR w 79 1 = 81 ∧ gR w 79 2 = 82 := ⟨sk_fix hS (by decide +kernel) (by decide), sk_fix hS (by decide +kernel) (by decide), sk_fix hS (by decide +kernel) (by decide)⟩
theorem l80 (hS : SK w) : (gA w 80).length = 144 := SK_len hS (a := 80) (n := 144) (by decide +kernel) (by decide)
theorem l81 (hS : SK w) : (gA w 81).length = 12 := SK_len hS (a := 81) (n := 12) (by decide +kernel) (by decide)
theorem l82 (hS : SK w) : (gA w 82).length = 12 := SK_len hS (a := 82) (n := 12) (by decide +kernel) (by decide)
theorem aI_lt (h : aI w a x) (hl : (gA w a).length = n) : 0 ≤ x.toInt ∧ x.toInt < n := by
  have q : iN x (gA w a).length := h
  rw [hl] at q
  exact q
theorem cmF_s (hS : SK w) (h : x.toInt = j) (hj : j < 12) (q : Nat) : cmF (aS w 81 x y) q = if q = j then y else cmF w q := by
  unfold cmF
  rw [gA_aS (SK_isA hS (by decide +kernel)), i_nat h, getD_set (by rw [l81 hS]; exact hj)]
theorem quF_s (hS : SK w) (h : x.toInt = j) (hj : j < 12) (q : Nat) : quF (aS w 82 x y) q = if q = j then y else quF w q := by
  unfold quF
  rw [gA_aS (SK_isA hS (by decide +kernel)), i_nat h, getD_set (by rw [l82 hS]; exact hj)]
theorem cmF_82 (q : Nat) : cmF (aS w 82 x y) q = cmF w q := by unfold cmF; rw [gA_aS_ne (by decide)]
theorem quF_81 (q : Nat) : quF (aS w 81 x y) q = quF w q := by unfold quF; rw [gA_aS_ne (by decide)]
/-- the queue, from whom each came -/
def QI (w0 w : pm_W) (s B : Nat) (ρ : Nat → Nat) : Prop := FM [] [81, 82] w0 w ∧ B ≤ 12 ∧ 1 ≤ B ∧ (cmF w s).toInt = s ∧ (∀ j, j < B → ∃ x : Nat, x < 12 ∧ (quF w j).toInt = x ∧ cmF w x ≠ -1 ∧ ρ x = j) ∧ (∀ x : Nat, x < 12 → cmF w x ≠ -1 → ∃ j, j < B ∧ (quF w j).toInt = x) ∧ ∀ x : Nat, x < 12 → cmF w x ≠ -1 → x = s ∨ ∃ p : Nat, p < 12 ∧ (cmF w x).toInt = p ∧ cmF w p ≠ -1 ∧ ρ p < ρ x ∧ 0 < frC w0 p x
/-- those before I have been looked at -/
def PRC (w0 w : pm_W) (I : Nat) : Prop := ∀ j, j < I → ∀ y : Nat, (quF w j).toInt = y → ∀ b, b < 12 → 0 < frC w0 y b → cmF w b ≠ -1
theorem m1_ne {v : Int32} (h : v.toInt = j) : v ≠ -1 := fun e => by
  rw [e] at h
  have z : ((-1 : Int32)).toInt = -1 := by decide +kernel
  omega
theorem QI_new (hQ : QI w0 w s B ρ) (hy : y.toInt = a) (ha : a < 12) (hla : cmF w a ≠ -1) (hra : ρ a < B) (hx : x.toInt = b) (hb : b < 12) (hlb : cmF w b = -1) (hfr : 0 < frC w0 a b) (hz : z.toInt = B) (hB : B < 12) : QI w0 (aS (aS w 81 x y) 82 z x) s (B + 1) (fun q => if q = b then B else ρ q) := by
  obtain ⟨fm, h1, h2, h3, h4, h5, h6⟩ := hQ
  have S1 : SK w := fm.2.2.2
  have S2 : SK (aS w 81 x y) := SK_aS S1
  have ec : ∀ q, cmF (aS (aS w 81 x y) 82 z x) q = if q = b then y else cmF w q := fun q => by rw [cmF_82, cmF_s S1 hx hb]
  have eq : ∀ q, quF (aS (aS w 81 x y) 82 z x) q = if q = B then x else quF w q := fun q => by rw [quF_s S2 hz hB, quF_81]
  have hsb : s ≠ b := fun e => by
    rw [e, hlb] at h3
    rw [show (-1 : Int32).toInt = -1 by decide +kernel] at h3
    omega
  refine ⟨FM_trans fm (FM_trans (FM_aS S1 (by decide)) (FM_aS S2 (by decide))), by omega, by omega, by rw [ec, if_neg hsb]; exact h3, fun j hj => ?_, fun q hq hl => ?_, fun q hq hl => ?_⟩
  · by_cases e : j = B
    · refine ⟨b, hb, by rw [eq, if_pos e]; exact hx, by rw [ec, if_pos rfl]; exact m1_ne hy, by show (if b = b then B else ρ b) = j; rw [if_pos rfl, e]⟩
    · obtain ⟨q, c1, c2, c3, c4⟩ := h4 j (by omega)
      have hqb : q ≠ b := fun e => by rw [e] at c3; exact c3 hlb
      exact ⟨q, c1, by rw [eq, if_neg e]; exact c2, by rw [ec, if_neg hqb]; exact c3, by show (if q = b then B else ρ q) = j; rw [if_neg hqb]; exact c4⟩
  · rw [ec] at hl
    by_cases e : q = b
    · exact ⟨B, by omega, by rw [eq, if_pos rfl, e]; exact hx⟩
    · rw [if_neg e] at hl
      obtain ⟨j, c1, c2⟩ := h5 q hq hl
      exact ⟨j, by omega, by rw [eq, if_neg (by omega)]; exact c2⟩
  · rw [ec] at hl ⊢
    by_cases e : q = b
    · right
      have hab : a ≠ b := fun e => by rw [e] at hla; exact hla hlb
      refine ⟨a, ha, by rw [if_pos e]; exact hy, by rw [ec, if_neg hab]; exact hla, by show (if a = b then B else ρ a) < (if q = b then B else ρ q); rw [if_neg hab, if_pos e]; exact hra, by rw [e]; exact hfr⟩
    · rw [if_neg e] at hl ⊢
      rcases h6 q hq hl with c | ⟨p, c1, c2, c3, c4, c5⟩
      · exact Or.inl c
      · right
        have hpb : p ≠ b := fun e => by rw [e] at c3; exact c3 hlb
        exact ⟨p, c1, c2, by rw [ec, if_neg hpb]; exact c3, by show (if p = b then B else ρ p) < (if q = b then B else ρ q); rw [if_neg hpb, if_neg e]; exact c4, c5⟩
/-- a way is found -/
def WAYc (w w' : pm_W) (s t : Nat) : Prop := ∃ (ρ : Nat → Nat) (B : Nat), QI w w' s B ρ ∧ cmF w' t ≠ -1
/-- none is found -/
def NOWc (w w' : pm_W) (s t : Nat) : Prop := cmF w' s ≠ -1 ∧ cmF w' t = -1 ∧ ∀ a b, a < 12 → b < 12 → cmF w' a ≠ -1 → cmF w' b = -1 → frC w a b ≤ 0
theorem F165_l (hS0 : SK w0) (h1 : p1.toInt = s) (h2 : p2.toInt = t) (hs : s < 12) (ht : t < 12) : ∀ k : Nat,
    (∀ (w : pm_W) (B I : Nat) (ρ : Nat → Nat) (i3 i4 : Int32) (u5 u6 : Value), i3.toInt = B → i4.toInt = I → I ≤ B → QI w0 w s B ρ → PRC w0 w I → cmF w t = -1 → PS X k 165 27 [.ref 79, .int p1, .int p2, .int i3, .int i4, u5, u6] [] w r w' → FM [] [81, 82] w0 w' ∧ ((r = some (.int 0) ∧ NOWc w0 w' s t) ∨ (r = some (.int 1) ∧ WAYc w0 w' s t))) ∧
    (∀ (w : pm_W) (B I J : Nat) (ρ : Nat → Nat) (i3 i4 i5 i6 : Int32), i3.toInt = B → i4.toInt = I → I < B → i6.toInt = J → J ≤ 12 → quF w I = i5 → QI w0 w s B ρ → PRC w0 w I → (∀ y : Nat, i5.toInt = y → ∀ b, b < J → 0 < frC w0 y b → cmF w b ≠ -1) → PS X k 165 52 [.ref 79, .int p1, .int p2, .int i3, .int i4, .int i5, .int i6] [] w r w' → FM [] [81, 82] w0 w' ∧ ((r = some (.int 0) ∧ NOWc w0 w' s t) ∨ (r = some (.int 1) ∧ WAYc w0 w' s t))) := by
  have e12 : (12 : Int32).toInt = 12 := by decide +kernel
  intro k
  induction k with
  | zero => exact ⟨fun _ _ _ _ _ _ _ _ _ _ _ _ _ _ h => (PS_0 h).elim, fun _ _ _ _ _ _ _ _ _ _ _ _ _ _ _ _ _ _ h => (PS_0 h).elim⟩
  | succ k ih =>
    obtain ⟨ih27, ih52⟩ := ih
    refine ⟨fun w B I ρ i3 i4 u5 u6 h3 h4 hI hQ hP hn h => ?_, fun w B I J ρ i3 i4 i5 i6 h3 h4 hI h6 hJ h5 hQ hP hr h => ?_⟩
    · have hS : SK w := hQ.1.2.2.2
      obtain ⟨g0, g1, g2⟩ := R79 hS
      have h := U165_27 hS h
      rw [g2] at h
      have none_ : B ≤ I → r = some (.int 0) ∧ w' = w → FM [] [81, 82] w0 w' ∧ ((r = some (.int 0) ∧ NOWc w0 w' s t) ∨ (r = some (.int 1) ∧ WAYc w0 w' s t)) := by
        rintro hB ⟨a1, a2⟩
        subst a2
        refine ⟨hQ.1, Or.inl ⟨a1, m1_ne hQ.2.2.2.1, hn, fun a b ha hb hla hlb => ?_⟩⟩
        obtain ⟨j, c1, c2⟩ := hQ.2.2.2.2.2.1 a ha hla
        have q := hP j (by omega) a c2 b hb
        by_cases c : 0 < frC w0 a b
        · exact absurd hlb (q c)
        · omega
      by_cases c : i3 ≤ i4
      · rw [if_pos c] at h
        rw [Int32.le_iff_toInt_le, h3, h4] at c
        exact none_ (by omega) h
      · rw [if_neg c] at h
        rw [Int32.le_iff_toInt_le, h3, h4] at c
        by_cases c2 : 12 ≤ i4
        · rw [if_pos c2] at h
          rw [Int32.le_iff_toInt_le, e12, h4] at c2
          have := hQ.2.1
          omega
        · rw [if_neg c2] at h
          obtain ⟨_, h⟩ := h
          have e5 : aG w 82 i4 = quF w I := aG_n h4
          rw [e5] at h
          exact ih52 w B I 0 ρ i3 i4 _ 0 h3 h4 (by omega) z32 (by omega) rfl hQ hP (fun y _ b hb => absurd hb (Nat.not_lt_zero b)) h
    · have hS : SK w := hQ.1.2.2.2
      obtain ⟨g0, g1, g2⟩ := R79 hS
      have h := U165_52 hS h
      rw [g1, g0] at h
      obtain ⟨y, hy12, hy, hly, hρy⟩ := hQ.2.2.2.2.1 I hI
      rw [h5] at hy
      by_cases c : 12 ≤ i6
      · rw [if_pos c] at h
        rw [Int32.le_iff_toInt_le, e12, h6] at c
        obtain ⟨_, h⟩ := h
        rw [show aG w 81 p2 = cmF w t from aG_n h2] at h
        by_cases c2 : cmF w t = -1
        · rw [if_pos c2] at h
          refine ih27 w B (I + 1) ρ i3 _ _ _ h3 (by rw [zi_inc (n := 40) (by have := hQ.2.1; omega) (by omega), h4]; rfl) (by omega) hQ (fun j hj y' hy' b hb hf => ?_) c2 h
          by_cases e : j = I
          · rw [e, h5] at hy'
            exact hr y' hy' b (by omega) hf
          · exact hP j (by omega) y' hy' b hb hf
        · rw [if_neg c2] at h
          rw [h.2]
          exact ⟨hQ.1, Or.inr ⟨h.1, ρ, B, hQ, c2⟩⟩
      · rw [if_neg c] at h
        rw [Int32.le_iff_toInt_le, e12, h6] at c
        have hJ12 : J < 12 := by omega
        have e1 : (i6 + 1).toInt = ((J + 1 : Nat) : Int) := by rw [zi_inc (n := 40) (by omega) (by omega), h6]; rfl
        obtain ⟨_, h⟩ := h
        have e6 : aG w 81 i6 = cmF w J := aG_n h6
        rw [e6] at h
        have skip : (0 < frC w0 y J → cmF w J ≠ -1) → PS X k 165 52 [.ref 79, .int p1, .int p2, .int i3, .int i4, .int i5, .int (i6 + 1)] [] w r w' → FM [] [81, 82] w0 w' ∧ ((r = some (.int 0) ∧ NOWc w0 w' s t) ∨ (r = some (.int 1) ∧ WAYc w0 w' s t)) := by
          intro hc h
          refine ih52 w B I (J + 1) ρ i3 i4 i5 _ h3 h4 hI e1 (by omega) h5 hQ hP (fun y' hy' b hb hf => ?_) h
          by_cases e : b = J
          · have : y' = y := by omega
            rw [e, this] at hf
            rw [e]
            exact hc hf
          · exact hr y' hy' b (by omega) hf
        by_cases c2 : cmF w J = -1
        · rw [if_pos c2] at h
          obtain ⟨_, h⟩ := h
          have ef : (aG w 80 (i5 * 12 + i6)).toInt = frC w0 y J := by
            rw [aG_n (m := 12 * y + J) (by rw [zi_add (zi_mul hy e12 (by omega) (by omega)) h6 (by omega) (by omega)]; omega), FM_a hQ.1 (by decide)]
            rfl
          by_cases c3 : aG w 80 (i5 * 12 + i6) ≤ 0
          · rw [if_pos c3] at h
            rw [Int32.le_iff_toInt_le, ef, z32] at c3
            exact skip (fun q => by omega) h
          · rw [if_neg c3] at h
            rw [Int32.le_iff_toInt_le, ef, z32] at c3
            obtain ⟨_, h⟩ := h
            have h := h _ rfl
            have S1 : SK (aS w 81 i6 i5) := SK_aS hS
            rw [(R79 S1).2.2] at h
            obtain ⟨hi, h⟩ := h
            have h := h _ rfl
            have hB := aI_lt hi (l82 S1)
            rw [h3] at hB
            have hQ' := QI_new hQ hy hy12 hly (by omega) h6 hJ12 c2 (by omega) h3 (by omega)
            have ec : ∀ q, cmF (aS (aS w 81 i6 i5) 82 i3 i6) q = if q = J then i5 else cmF w q := fun q => by rw [cmF_82, cmF_s hS h6 hJ12]
            have eq : ∀ q, quF (aS (aS w 81 i6 i5) 82 i3 i6) q = if q = B then i6 else quF w q := fun q => by rw [quF_s S1 h3 (by omega), quF_81]
            have up : ∀ q, cmF w q ≠ -1 → cmF (aS (aS w 81 i6 i5) 82 i3 i6) q ≠ -1 := by
              intro q hq
              rw [ec]
              by_cases e : q = J
              · rw [if_pos e]; exact m1_ne hy
              · rw [if_neg e]; exact hq
            refine ih52 _ (B + 1) I (J + 1) _ _ i4 i5 _ (by rw [zi_inc (n := 40) (by omega) (by omega), h3]; rfl) h4 (by omega) e1 (by omega) (by rw [eq, if_neg (by omega)]; exact h5) hQ' (fun j hj y' hy' b hb hf => ?_) (fun y' hy' b hb hf => ?_) h
            · rw [eq, if_neg (by omega)] at hy'
              exact up _ (hP j hj y' hy' b hb hf)
            · by_cases e : b = J
              · rw [e, ec, if_pos rfl]; exact m1_ne hy
              · exact up _ (hr y' hy' b (by omega) hf)
        · rw [if_neg c2] at h
          exact skip (fun _ => c2) h
theorem F165 (hS : SK w) (h1 : p1.toInt = s) (h2 : p2.toInt = t) (hs : s < 12) (ht : t < 12) (hst : s ≠ t) (h : PS X k 165 0 [.ref 79, .int p1, .int p2, pm_dead, pm_dead, pm_dead, pm_dead] [] w r w') : FM [] [81, 82] w w' ∧ ((r = some (.int 0) ∧ NOWc w w' s t) ∨ (r = some (.int 1) ∧ WAYc w w' s t)) := by
  cases k with
  | zero => exact (PS_0 h).elim
  | succ k =>
    obtain ⟨q1, w2, y, h⟩ := U165_0 hS h
    rw [(R79 hS).2.1] at y
    obtain ⟨e1, f1, l1⟩ := F20_n (N := 12) hS (by decide +kernel) (l81 hS) (by decide) y
    have S2 : SK w2 := f1.2.2.2
    have h := h e1 S2
    rw [(R79 S2).2.1] at h
    obtain ⟨_, h⟩ := h
    have h := h _ rfl
    have S3 : SK (aS w2 81 p1 p1) := SK_aS S2
    rw [(R79 S3).2.2] at h
    obtain ⟨_, h⟩ := h
    have h := h _ rfl
    have ec : ∀ q, cmF (aS (aS w2 81 p1 p1) 82 0 p1) q = if q = s then p1 else cmF w2 q := fun q => by rw [cmF_82, cmF_s S2 h1 hs]
    have eq : ∀ q, quF (aS (aS w2 81 p1 p1) 82 0 p1) q = if q = 0 then p1 else quF w2 q := fun q => by rw [quF_s S3 z32 (by decide), quF_81]
    have lo : ∀ q, q < 12 → cmF (aS (aS w2 81 p1 p1) 82 0 p1) q ≠ -1 → q = s := by
      intro q hq hl
      rw [ec] at hl
      by_cases e : q = s
      · exact e
      · rw [if_neg e] at hl
        exact absurd (l1 q hq) hl
    refine (F165_l hS h1 h2 hs ht k).1 _ 1 0 (fun _ => 0) _ _ _ _ o32 z32 (by omega) ⟨FM_trans (FM_mono f1 (by intro x hx; cases hx) (by decide)) (FM_trans (FM_aS S2 (by decide)) (FM_aS S3 (by decide))), by omega, by omega, by rw [ec, if_pos rfl]; exact h1, fun j hj => ?_, fun q hq hl => ?_, fun q hq hl => Or.inl (lo q hq hl)⟩ (fun j hj => absurd hj (Nat.not_lt_zero j)) (by rw [ec, if_neg (fun e => hst e.symm)]; exact l1 t ht) h
    · exact ⟨s, hs, by rw [eq, if_pos (by omega)]; exact h1, by rw [ec, if_pos rfl]; exact m1_ne h1, by show (0 : Nat) = j; omega⟩
    · exact ⟨0, by omega, by rw [eq, if_pos rfl, lo q hq hl]; exact h1⟩
end IFW
end
section
/-! ===== the class's flows: pushing along, the most that goes through ===== -/
section IGP
variable {X : pm_X} {k k2 : Nat} {w0 w w1 w2 w3 w4 w' : pm_W} {r r2 q0 q1 q2 : Option Value} {p1 p2 p3 p4 i1 i2 i3 i4 i5 i6 z z1 z2 x y : Int32} {i v j m u P t s b Q B I J K n a T p : Nat} {ρ : Nat → Nat} {c : Nat → Nat → Int} {d : Int}
def prC (w : pm_W) (x : Nat) : Nat := (cmF w x).toInt.toNat
def lbC (w : pm_W) (x : Nat) : Bool := decide (cmF w x ≠ -1)
theorem frC_fm {fs : List (Nat × Nat)} {as : List Nat} (h : FM fs as w w') (n : 80 ∉ as) : frC w' = frC w := by
  funext a b
  unfold frC
  rw [FM_a h n]
theorem QI_PTH (hQ : QI w0 w s B ρ) : PTH 12 (prC w) (lbC w) (fun x => decide (x = s)) ρ := by
  intro x hx hl
  rcases hQ.2.2.2.2.2.2 x hx (of_decide_eq_true hl) with h | ⟨p, h1, h2, h3, h4, h5⟩
  · exact Or.inl (decide_eq_true h)
  · right
    have e : prC w x = p := by unfold prC; omega
    rw [e]
    exact ⟨h1, decide_eq_true h3, h4⟩
theorem QI_rho (hQ : QI w0 w s B ρ) (hx : a < 12) (hl : cmF w a ≠ -1) : ρ a < 12 := by
  obtain ⟨j, h1, h2⟩ := hQ.2.2.2.2.2.1 a hx hl
  obtain ⟨x', c1, c2, c3, c4⟩ := hQ.2.2.2.2.1 j h1
  have e : x' = a := by omega
  rw [e] at c4
  have := hQ.2.1
  omega
theorem QI_pr (hQ : QI w0 w s B ρ) (hx : a < 12) (hl : cmF w a ≠ -1) (hne : a ≠ s) : (cmF w a).toInt = prC w a ∧ prC w a < 12 ∧ 0 < frC w0 (prC w a) a ∧ prC w a ≠ a := by
  rcases hQ.2.2.2.2.2.2 a hx hl with h | ⟨p, h1, h2, h3, h4, h5⟩
  · exact absurd h hne
  · have e : prC w a = p := by unfold prC; omega
    rw [e]
    exact ⟨h2, h1, h5, fun e => by rw [e] at h4; omega⟩
theorem frC_s (hS : SK w) (ha : a < 12) (hb : b < 12) (hx : x.toInt = (12 * a + b : Nat)) (i j : Nat) (hi : i < 12) (hj : j < 12) : frC (aS w 80 x y) i j = if i = a ∧ j = b then y.toInt else frC w i j := by
  unfold frC
  rw [gA_aS (SK_isA hS (by decide +kernel)), i_nat hx, getD_set (by rw [l80 hS]; omega)]
  by_cases e : i = a ∧ j = b
  · rw [if_pos (by omega), if_pos e]
  · rw [if_neg (by omega), if_neg e]
theorem FLW_hi (hF : FLW c (frC w) 12) (hc : ∀ a b, a < 12 → b < 12 → c a b + c b a ≤ 1000000) (ha : a < 12) (hb : b < 12) (hne : a ≠ b) : 0 ≤ frC w a b ∧ frC w a b ≤ 1000000 := by
  have q1 := hF.1 a b ha hb hne
  have q2 := hF.1 b a hb ha (fun e => hne e.symm)
  have q3 := hF.2 a b ha hb
  have q4 := hc a b ha hb
  omega
/-- the second way back -/
theorem F166_66 (hS : SK w) (hQ : QI w0 w s B ρ) (hl : cmF w t ≠ -1) (ht : t < 12) (h1 : i1.toInt = s) (h3 : i3.toInt = d) (hd : 0 < d) (hd2 : d ≤ 1000000) (hc : ∀ a b, a < 12 → b < 12 → c a b + c b a ≤ 1000000) (hJ : J ≤ 12) (hJs : J < 12 → itr (prC w) t J = s) (hJn : ∀ i, i < J → itr (prC w) t i ≠ s) (hlb : lbC w t = true) : ∀ (k : Nat) (wj : pm_W) (j : Nat) (i4 i5 : Int32) (u6 : Value), FM [] [80] w wj → i4.toInt = (itr (prC w) t j : Nat) → i5.toInt = j → j ≤ J → PSJ c (frC w) (frC wj) 12 (prC w) t J j d → PS X k 166 66 [.ref 79, .int i1, .int i2, .int i3, .int i4, .int i5, u6] [] wj r w' → FM [] [80] w w' ∧ r = some (.int i3) ∧ PSJ c (frC w) (frC w') 12 (prC w) t J J d := by
  have e12 : (12 : Int32).toInt = 12 := by decide +kernel
  have hP := QI_PTH hQ
  have hroot : ∀ i, i < J → (fun x => decide (x = s)) (itr (prC w) t i) = false := fun i hi => decide_eq_false (hJn i hi)
  intro k
  induction k with
  | zero => intro wj j i4 i5 u6 _ _ _ _ _ h; exact (PS_0 h).elim
  | succ k ih =>
    intro wj j i4 i5 u6 fm h4 h5 hj hps h
    have hSj : SK wj := fm.2.2.2
    have h := U166_66 hSj h
    have fin : j = J → r = some (.int i3) ∧ w' = wj → FM [] [80] w w' ∧ r = some (.int i3) ∧ PSJ c (frC w) (frC w') 12 (prC w) t J J d := by
      rintro e ⟨a1, a2⟩
      rw [a2]
      rw [e] at hps
      exact ⟨fm, a1, hps⟩
    by_cases c1 : 12 ≤ i5
    · rw [if_pos c1] at h
      rw [Int32.le_iff_toInt_le, e12, h5] at c1
      exact fin (by omega) h
    · rw [if_neg c1] at h
      rw [Int32.le_iff_toInt_le, e12, h5] at c1
      by_cases c2 : i4 = i1
      · rw [if_pos c2] at h
        refine fin ?_ h
        rw [c2, h1] at h4
        by_cases e : j < J
        · exact absurd (by omega) (hJn j e)
        · omega
      · rw [if_neg c2] at h
        have hjJ : j < J := by
          by_cases e : j = J
          · exfalso
            rw [e, hJs (by omega)] at h4
            exact c2 (Int32.toInt_inj.mp (by rw [h4, h1]))
          · omega
        obtain ⟨a1, a2, _⟩ := itr_in hP ht hlb j (fun i hi => hroot i (by omega))
        obtain ⟨b1, b2, b3, b4⟩ := QI_pr hQ a1 (of_decide_eq_true a2) (hJn j hjJ)
        obtain ⟨g0, g1, g2⟩ := R79 hSj
        rw [g1, g0] at h
        obtain ⟨_, _, _, h⟩ := h
        have ec : aG wj 81 i4 = cmF w (itr (prC w) t j) := by
          rw [aG_n h4, FM_a fm (by decide)]
          rfl
        rw [ec] at h
        obtain ⟨xn, hxn⟩ : ∃ xn, xn = itr (prC w) t j := ⟨_, rfl⟩
        obtain ⟨pn, hpn⟩ : ∃ pn, pn = itr (prC w) t (j + 1) := ⟨_, rfl⟩
        have hpx : prC w xn = pn := by rw [hxn, hpn]; rfl
        rw [← hxn] at h4 a1 a2 b1 b2 b3 b4 h
        rw [hpx] at b1 b2 b3 b4
        have ei : ((cmF w xn) * 12 + i4).toInt = (12 * pn + xn : Nat) := by
          rw [zi_add (zi_mul b1 e12 (by omega) (by omega)) h4 (by omega) (by omega)]; omega
        have ei2 : (i4 * 12 + (cmF w xn)).toInt = (12 * xn + pn : Nat) := by
          rw [zi_add (zi_mul h4 e12 (by omega) (by omega)) b1 (by omega) (by omega)]; omega
        have v1 : (aG wj 80 ((cmF w xn) * 12 + i4)).toInt = frC wj pn xn := by rw [aG_n ei]; rfl
        have dle := hps.2.1 j (Nat.le_refl j) hjJ
        rw [← hxn, ← hpn] at dle
        obtain ⟨f1, f2⟩ := FLW_hi hps.1 hc b2 a1 b4
        obtain ⟨f3, f4⟩ := FLW_hi hps.1 hc a1 b2 (fun e => b4 e.symm)
        have v1s : (aG wj 80 ((cmF w xn) * 12 + i4) - i3).toInt = frC wj pn xn - d := zi_sub v1 h3 (by omega) (by omega)
        have h := h _ rfl
        have S1 : SK (aS wj 80 ((cmF w xn) * 12 + i4) (aG wj 80 ((cmF w xn) * 12 + i4) - i3)) := SK_aS hSj
        rw [(R79 S1).1] at h
        obtain ⟨_, _, h⟩ := h
        have h := h _ rfl
        have v2 : (aG (aS wj 80 ((cmF w xn) * 12 + i4) (aG wj 80 ((cmF w xn) * 12 + i4) - i3)) 80 (i4 * 12 + (cmF w xn))).toInt = frC wj xn pn := by
          rw [aG_n ei2]
          show frC _ xn pn = _
          rw [frC_s hSj b2 a1 ei xn pn a1 b2, if_neg (fun z => b4 z.1.symm)]
        have v2s := zi_add v2 h3 (by omega) (by omega)
        have fr2 : ∀ a b, a < 12 → b < 12 → frC (aS (aS wj 80 ((cmF w xn) * 12 + i4) (aG wj 80 ((cmF w xn) * 12 + i4) - i3)) 80 (i4 * 12 + (cmF w xn)) (aG (aS wj 80 ((cmF w xn) * 12 + i4) (aG wj 80 ((cmF w xn) * 12 + i4) - i3)) 80 (i4 * 12 + (cmF w xn)) + i3)) a b = if a = xn ∧ b = pn then frC wj xn pn + d else if a = pn ∧ b = xn then frC wj pn xn - d else frC wj a b := by
          intro a b ha hb
          rw [frC_s S1 a1 b2 ei2 a b ha hb, v2s, frC_s hSj b2 a1 ei a b ha hb, v1s]
        have psh : PSH (frC wj) (frC (aS (aS wj 80 ((cmF w xn) * 12 + i4) (aG wj 80 ((cmF w xn) * 12 + i4) - i3)) 80 (i4 * 12 + (cmF w xn)) (aG (aS wj 80 ((cmF w xn) * 12 + i4) (aG wj 80 ((cmF w xn) * 12 + i4) - i3)) 80 (i4 * 12 + (cmF w xn)) + i3))) 12 (itr (prC w) t (j + 1)) (itr (prC w) t j) d := by
          intro a b ha hb
          rw [fr2 a b ha hb, ← hxn, ← hpn]
          by_cases e1 : a = xn ∧ b = pn
          · rw [if_pos e1, if_pos e1, if_neg (fun z => b4 (z.1.symm.trans e1.1)), e1.1, e1.2]; omega
          · rw [if_neg e1, if_neg e1]
            by_cases e2 : a = pn ∧ b = xn
            · rw [if_pos e2, if_pos e2, e2.1, e2.2]; omega
            · rw [if_neg e2, if_neg e2]; omega
        refine ih _ (j + 1) _ _ _ (FM_trans fm (FM_trans (FM_aS hSj (by decide)) (FM_aS S1 (by decide)))) ?_ (by rw [zi_inc (n := 40) (by omega) (by omega), h5]; rfl) (by omega) (PSJ_s hP ht hlb hroot (by omega) hjJ hps psh) h
        rw [b1, hpn]
theorem F166 (hS : SK w) (hQ : QI w0 w s B ρ) (hl : cmF w t ≠ -1) (ht : t < 12) (h1 : p1.toInt = s) (h2 : p2.toInt = t) (hF : FLW c (frC w) 12) (hc : ∀ a b, a < 12 → b < 12 → c a b + c b a ≤ 1000000) (h : PS X k 166 0 [.ref 79, .int p1, .int p2, pm_dead, pm_dead, pm_dead, pm_dead] [] w r w') : FM [] [80] w w' ∧ ∃ (z : Int32), r = some (.int z) ∧ 0 < z.toInt ∧ z.toInt ≤ 1000000 ∧ FLW c (frC w') 12 ∧ ∀ a, a < 12 → gone c (frC w') 12 a = gone c (frC w) 12 a + (if a = s then z.toInt else 0) - (if a = t then z.toInt else 0) := by
  have e12 : (12 : Int32).toInt = 12 := by decide +kernel
  have eM : (1000000 : Int32).toInt = 1000000 := by decide +kernel
  have hP := QI_PTH hQ
  have hlb : lbC w t = true := decide_eq_true hl
  have e0 : frC w = frC w0 := frC_fm hQ.1 (by decide)
  have fin : ∀ (k j : Nat) (i3 : Int32), (∀ i, i < j → itr (prC w) t i ≠ s) → j ≤ 12 → (j < 12 → itr (prC w) t j = s) → 0 < i3.toInt → i3.toInt ≤ 1000000 → (∀ i, i < j → i3.toInt ≤ frC w (itr (prC w) t (i + 1)) (itr (prC w) t i)) → PS X k 166 66 [.ref 79, .int p1, .int p2, .int i3, .int p2, .int 0, pm_dead] [] w r w' → FM [] [80] w w' ∧ ∃ (z : Int32), r = some (.int z) ∧ 0 < z.toInt ∧ z.toInt ≤ 1000000 ∧ FLW c (frC w') 12 ∧ ∀ a, a < 12 → gone c (frC w') 12 a = gone c (frC w) 12 a + (if a = s then z.toInt else 0) - (if a = t then z.toInt else 0) := by
    intro k j i3 hn hj hjs hp hp2 hle h
    obtain ⟨f, a1, a2⟩ := F166_66 hS hQ hl ht h1 rfl hp hp2 hc hj hjs hn hlb k w 0 _ _ _ (FM_refl hS) h2 z32 (Nat.zero_le _) (PSJ_0 hF hle) h
    have ej : itr (prC w) t j = s := by
      by_cases e : j < 12
      · exact hjs e
      · exfalso
        have q := itr_in hP ht hlb j (fun i hi => decide_eq_false (hn i hi))
        have := QI_rho hQ ht hl
        omega
    refine ⟨f, i3, a1, hp, hp2, a2.1, fun a ha => ?_⟩
    have q := a2.2.2 a ha
    rw [ej] at q
    exact q
  have lp : ∀ (k j : Nat) (i3 i4 i5 : Int32), i4.toInt = (itr (prC w) t j : Nat) → i5.toInt = j → j ≤ 12 → (∀ i, i < j → itr (prC w) t i ≠ s) → 0 < i3.toInt → i3.toInt ≤ 1000000 → (∀ i, i < j → i3.toInt ≤ frC w (itr (prC w) t (i + 1)) (itr (prC w) t i)) → PS X k 166 9 [.ref 79, .int p1, .int p2, .int i3, .int i4, .int i5, pm_dead] [] w r w' → FM [] [80] w w' ∧ ∃ (z : Int32), r = some (.int z) ∧ 0 < z.toInt ∧ z.toInt ≤ 1000000 ∧ FLW c (frC w') 12 ∧ ∀ a, a < 12 → gone c (frC w') 12 a = gone c (frC w) 12 a + (if a = s then z.toInt else 0) - (if a = t then z.toInt else 0) := by
    intro k
    induction k with
    | zero => intro j i3 i4 i5 _ _ _ _ _ _ _ h; exact (PS_0 h).elim
    | succ k ih =>
      intro j i3 i4 i5 h4 h5 hj hn hp hp2 hle h
      have h := U166_9 hS h
      by_cases c1 : 12 ≤ i5
      · rw [if_pos c1] at h
        rw [Int32.le_iff_toInt_le, e12, h5] at c1
        exact fin k j i3 hn hj (fun q => by omega) hp hp2 hle h
      · rw [if_neg c1] at h
        rw [Int32.le_iff_toInt_le, e12, h5] at c1
        by_cases c2 : i4 = p1
        · rw [if_pos c2] at h
          rw [c2, h1] at h4
          exact fin k j i3 hn hj (fun q => by omega) hp hp2 hle h
        · rw [if_neg c2] at h
          have hjs : itr (prC w) t j ≠ s := fun e => c2 (Int32.toInt_inj.mp (by rw [h4, h1, e]))
          obtain ⟨a1, a2, _⟩ := itr_in hP ht hlb j (fun i hi => decide_eq_false (hn i hi))
          obtain ⟨b1, b2, b3, b4⟩ := QI_pr hQ a1 (of_decide_eq_true a2) hjs
          obtain ⟨g0, g1, g2⟩ := R79 hS
          rw [g1, g0] at h
          obtain ⟨_, _, _, h⟩ := h
          have ec : aG w 81 i4 = cmF w (itr (prC w) t j) := by rw [aG_n h4]; rfl
          rw [ec] at h
          have v1 : (aG w 80 ((cmF w (itr (prC w) t j)) * 12 + i4)).toInt = frC w (prC w (itr (prC w) t j)) (itr (prC w) t j) := by
            rw [aG_n (m := 12 * prC w (itr (prC w) t j) + itr (prC w) t j) (by rw [zi_add (zi_mul b1 e12 (by omega) (by omega)) h4 (by omega) (by omega)]; omega)]
            rfl
          rw [← e0] at b3
          obtain ⟨f1, f2⟩ := FLW_hi hF hc b2 a1 b4
          have hv : ∀ i3' : Int32, 0 < i3'.toInt → i3'.toInt ≤ i3.toInt → i3'.toInt ≤ frC w (prC w (itr (prC w) t j)) (itr (prC w) t j) → PS X k 166 9 [.ref 79, .int p1, .int p2, .int i3', .int (cmF w (itr (prC w) t j)), .int (i5 + 1), pm_dead] [] w r w' → FM [] [80] w w' ∧ ∃ (z : Int32), r = some (.int z) ∧ 0 < z.toInt ∧ z.toInt ≤ 1000000 ∧ FLW c (frC w') 12 ∧ ∀ a, a < 12 → gone c (frC w') 12 a = gone c (frC w) 12 a + (if a = s then z.toInt else 0) - (if a = t then z.toInt else 0) := by
            intro i3' q1 q2 q3 h
            refine ih (j + 1) i3' _ _ (by rw [b1]; rfl) (by rw [zi_inc (n := 40) (by omega) (by omega), h5]; rfl) (by omega) (fun i hi => ?_) q1 (by omega) (fun i hi => ?_) h
            · by_cases e : i = j
              · rw [e]; exact hjs
              · exact hn i (by omega)
            · by_cases e : i = j
              · rw [e]; exact q3
              · have := hle i (by omega); omega
          by_cases c3 : aG w 80 ((cmF w (itr (prC w) t j)) * 12 + i4) < i3
          · rw [if_pos c3] at h
            rw [Int32.lt_iff_toInt_lt, v1] at c3
            exact hv _ (by rw [v1]; exact b3) (by rw [v1]; omega) (by rw [v1]; exact Int.le_refl _) h
          · rw [if_neg c3] at h
            rw [Int32.lt_iff_toInt_lt, v1] at c3
            exact hv _ hp (Int.le_refl _) (by omega) h
  cases k with
  | zero => exact (PS_0 h).elim
  | succ k => exact lp k 0 _ _ _ h2 z32 (by omega) (fun i hi => absurd hi (Nat.not_lt_zero i)) (by rw [eM]; omega) (by rw [eM]; omega) (fun i hi => absurd hi (Nat.not_lt_zero i)) (U166_0 hS h)
theorem FLW_dg (hF : FLW c (frC w) 12) (ha : a < 12) : frC w a a = c a a := by
  have q := hF.2 a a ha ha
  omega
/-- the most that goes through -/
theorem F164 (hS : SK w) (h1 : p1.toInt = s) (h2 : p2.toInt = t) (hs : s < 12) (ht : t < 12) (hst : s ≠ t) (hfr : ∀ a b, a < 12 → b < 12 → frC w a b = c a b) (hc0 : ∀ a b, a < 12 → b < 12 → 0 ≤ c a b) (hc : ∀ a b, a < 12 → b < 12 → c a b + c b a ≤ 1000000) (hcs : suI (fun b => c s b) 12 ≤ 900000) (h : PS X k 164 0 [.ref 79, .int p1, .int p2, pm_dead, pm_dead] [] w r w') : FM [] [80, 81, 82] w w' ∧ ∃ z : Int32, r = some (.int z) ∧ MCst c 12 s t z.toInt := by
  have eM : (1000000 : Int32).toInt = 1000000 := by decide +kernel
  have bnd : ∀ w1, FLW c (frC w1) 12 → gone c (frC w1) 12 s ≤ 900000 := by
    intro w1 hF
    have q : gone c (frC w1) 12 s ≤ suI (fun b => c s b) 12 := by
      unfold gone
      refine suI_le 12 (fun b hb => ?_)
      by_cases e : s = b
      · rw [← e, FLW_dg hF hs]
        have := hc0 s s hs hs
        omega
      · have := hF.1 s b hs hb e
        omega
    omega
  have lp : ∀ (k j : Nat) (w1 : pm_W) (i3 i4 : Int32), FM [] [80, 81, 82] w w1 → i4.toInt = j → (j : Int) ≤ i3.toInt → FLW c (frC w1) 12 → (∀ a, a < 12 → gone c (frC w1) 12 a = (if a = s then i3.toInt else 0) - (if a = t then i3.toInt else 0)) → PS X k 164 5 [.ref 79, .int p1, .int p2, .int i3, .int i4] [] w1 r w' → FM [] [80, 81, 82] w w' ∧ ∃ z : Int32, r = some (.int z) ∧ MCst c 12 s t z.toInt := by
    intro k
    induction k with
    | zero => intro j w1 i3 i4 _ _ _ _ _ h; exact (PS_0 h).elim
    | succ k ih =>
      intro j w1 i3 i4 fm h4 hj hF hg h
      have S1 : SK w1 := fm.2.2.2
      have hi3 := bnd w1 hF
      rw [hg s hs, if_pos rfl, if_neg hst] at hi3
      have h := U164_5 S1 h
      by_cases c1 : 1000000 ≤ i4
      · rw [Int32.le_iff_toInt_le, eM, h4] at c1
        omega
      · rw [if_neg c1] at h
        rw [Int32.le_iff_toInt_le, eM, h4] at c1
        obtain ⟨q1, w2, y, h5⟩ := h
        obtain ⟨f2, alt⟩ := F165 S1 h1 h2 hs ht hst y
        have S2 : SK w2 := f2.2.2.2
        have e2 : frC w2 = frC w1 := frC_fm f2 (by decide)
        rcases alt with ⟨a1, a2, a3, a4⟩ | ⟨a1, ρ, B, hQ, hl⟩
        · have h := h5 _ a1 S2
          rw [if_pos rfl] at h
          rw [h.2]
          refine ⟨FM_trans fm (FM_mono f2 (by intro x hx; cases hx) (by decide)), i3, h.1, ?_⟩
          refine st_MC (S := fun a => decide (cmF w2 a ≠ -1)) hF hs hg (decide_eq_true a2) (decide_eq_false (fun z => z a3)) (fun a b ha hb hsa hsb => ?_)
          have hsa := of_decide_eq_true hsa
          have hsb : cmF w2 b = -1 := Classical.byContradiction (fun q => of_decide_eq_false hsb q)
          have q := a4 a b ha hb hsa hsb
          have q2 := hF.1 a b ha hb (fun e => by rw [e] at hsa; exact hsa hsb)
          omega
        · have h := h5 _ a1 S2
          rw [if_neg (by decide +kernel)] at h
          obtain ⟨q4, w5, y5, h6⟩ := h
          obtain ⟨f5, z, b1, b2, b3, b4, b5⟩ := F166 S2 hQ hl ht h1 h2 (by rw [e2]; exact hF) hc y5
          have S5 : SK w5 := f5.2.2.2
          have h := h6 _ b1 S5
          have e : (i3 + z).toInt = i3.toInt + z.toInt := zi_add rfl rfl (by omega) (by omega)
          refine ih (j + 1) w5 _ _ (FM_trans fm (FM_trans (FM_mono f2 (by intro x hx; cases hx) (by decide)) (FM_mono f5 (by intro x hx; cases hx) (by decide)))) (by rw [zi_inc (n := 1000000) (by omega) (by omega), h4]; rfl) (by omega) b4 (fun a ha => ?_) h
          rw [b5 a ha, e2, hg a ha, e]
          by_cases e1 : a = s
          · rw [if_pos e1, if_pos e1, if_pos e1, if_neg (fun z => hst (e1.symm.trans z)), if_neg (fun z => hst (e1.symm.trans z)), if_neg (fun z => hst (e1.symm.trans z))]; omega
          · rw [if_neg e1, if_neg e1, if_neg e1]
            by_cases e3 : a = t
            · rw [if_pos e3, if_pos e3, if_pos e3]; omega
            · rw [if_neg e3, if_neg e3, if_neg e3]; omega
  cases k with
  | zero => exact (PS_0 h).elim
  | succ k =>
    have hF : FLW c (frC w) 12 := ⟨fun a b ha hb _ => by rw [hfr a b ha hb]; exact hc0 a b ha hb, fun a b ha hb => by rw [hfr a b ha hb, hfr b a hb ha]⟩
    refine lp k 0 w 0 0 (FM_refl hS) z32 (by rw [z32]; omega) hF (fun a ha => ?_) (U164_0 hS h)
    have e : gone c (frC w) 12 a = 0 := by
      unfold gone
      refine suI_z 12 (fun b hb => ?_)
      rw [hfr a b ha hb]
      omega
    rw [e, z32]
    split <;> split <;> rfl
end IGP
end
section
/-! ===== the class: what goes through from one to another ===== -/
section IHF
variable {X : pm_X} {k k2 : Nat} {w0 w w1 w2 w3 w4 w' : pm_W} {r r2 q0 q1 q2 : Option Value} {p1 p2 p3 p4 i1 i2 i3 i4 i5 i6 z z1 z2 x y : Int32} {i v j m u P t s b Q B I J K n a T p : Nat} {c : Nat → Nat → Int} {d : Int}
def rmW (w : pm_W) (a b : Nat) : Int := ((gA w 74).getD (9 * a + b) 0).toInt
theorem F162 (hS : SK w) (h : PS X k 162 0 [.ref 79] [] w r w') : r = none ∧ FM [] [80] w w' ∧ ∀ a b, a < 12 → b < 12 → frC w' a b = 0 := by
  cases k with
  | zero => exact (PS_0 h).elim
  | succ k =>
    obtain ⟨q1, w2, y, h⟩ := U162_0 hS h
    rw [(R79 hS).1] at y
    obtain ⟨e1, f1, l1⟩ := F20_n (N := 144) hS (by decide +kernel) (l80 hS) (by decide) y
    have h := h e1 f1.2.2.2
    rw [h.2]
    refine ⟨h.1, f1, fun a b ha hb => ?_⟩
    unfold frC
    rw [l1 _ (by omega), z32]
theorem FALw (hS : SK w) (h1 : p1.toInt = a) (h2 : p2.toInt = b) (ha : a < 12) (hb : b < 12) (h : PS X k 163 0 [.ref 79, .int p1, .int p2, .int p3] [] w r w') : r = none ∧ FM [] [80] w w' ∧ ∀ i j, i < 12 → j < 12 → frC w' i j = if i = a ∧ j = b then p3.toInt else frC w i j := by
  have e12 : (12 : Int32).toInt = 12 := by decide +kernel
  cases k with
  | zero => exact (PS_0 h).elim
  | succ k =>
    obtain ⟨_, h⟩ := U163_0 hS h
    obtain ⟨a1, a2⟩ := h _ rfl
    rw [(R79 hS).1] at a2
    rw [a2]
    exact ⟨a1, FM_aS hS (by decide), fun i j hi hj => frC_s hS ha hb (by rw [zi_add (zi_mul h1 e12 (by omega) (by omega)) h2 (by omega) (by omega)]; omega) i j hi hj⟩
end IHF
end
section
/-! ===== the reference's flows: what is left, pushing, the way ===== -/
section IIW
variable {X : pm_X} {k k2 : Nat} {w0 w w1 w2 w3 w4 w' : pm_W} {r r2 q0 q1 q2 : Option Value} {p1 p2 p3 p4 i1 i2 i3 i4 i5 i6 z z1 z2 x y : Int32} {i v j m u P t s b Q B I J K n a T p : Nat} {ρ : Nat → Nat} {c : Nat → Nat → Int} {d : Int}
def moR (w : pm_W) (a b : Nat) : Int := ((gA w 161).getD (10 * a + b) 0).toInt
def loR (w : pm_W) (a b : Nat) : Int := ((gA w 160).getD (10 * a + b) 0).toInt
def fwR (w : pm_W) (a b : Nat) : Int := ((gA w 162).getD (10 * a + b) 0).toInt
def ovR (w : pm_W) (a : Nat) : Int := ((gA w 163).getD a 0).toInt
def fmR (w : pm_W) (a : Nat) : Int32 := (gA w 164).getD a 0
def cR (w : pm_W) (a b : Nat) : Int := moR w a b - loR w a b
def rsR (w : pm_W) (a b : Nat) : Int := moR w a b - loR w a b - fwR w a b + fwR w b a
/-- numbers that don't leave an int -/
def RGr (w : pm_W) : Prop := (∀ a b, a < 10 → b < 10 → -1000000 ≤ moR w a b ∧ moR w a b ≤ 1000000 ∧ -1000000 ≤ loR w a b ∧ loR w a b ≤ 1000000 ∧ 0 ≤ fwR w a b ∧ fwR w a b ≤ 2000000) ∧ ∀ a, a < 10 → -1000000 ≤ ovR w a ∧ ovR w a ≤ 1000000
theorem l160 (hS : SK w) : (gA w 160).length = 100 := SK_len hS (a := 160) (n := 100) (by decide +kernel) (by decide)
theorem l161 (hS : SK w) : (gA w 161).length = 100 := SK_len hS (a := 161) (n := 100) (by decide +kernel) (by decide)
theorem l162 (hS : SK w) : (gA w 162).length = 100 := SK_len hS (a := 162) (n := 100) (by decide +kernel) (by decide)
theorem l163 (hS : SK w) : (gA w 163).length = 10 := SK_len hS (a := 163) (n := 10) (by decide +kernel) (by decide)
theorem l164 (hS : SK w) : (gA w 164).length = 10 := SK_len hS (a := 164) (n := 10) (by decide +kernel) (by decide)
theorem ix10 (h1 : p1.toInt = a) (h2 : p2.toInt = b) (ha : a < 10) (hb : b < 10) : (10 * p1 + p2).toInt = (10 * a + b : Nat) := by
  rw [zi_add (zi_mul ten32 h1 (by omega) (by omega)) h2 (by omega) (by omega)]; omega
theorem F280 (hS : SK w) (hR : RGr w) (h1 : p1.toInt = a) (h2 : p2.toInt = b) (ha : a < 10) (hb : b < 10) (h : PS X k 280 0 [.ref 147, .int p1, .int p2] [] w r w') : ∃ z : Int32, z.toInt = rsR w a b ∧ r = some (.int z) ∧ w' = w := by
  cases k with
  | zero => exact (PS_0 h).elim
  | succ k =>
    obtain ⟨_, _, _, _, e1, e2⟩ := U280_0 hS h
    obtain ⟨m1, m2, l1, l2, f1, f2⟩ := hR.1 a b ha hb
    obtain ⟨_, _, _, _, g1, g2⟩ := hR.1 b a hb ha
    have q1 : (aG w 161 (10 * p1 + p2)).toInt = moR w a b := by rw [aG_n (ix10 h1 h2 ha hb)]; rfl
    have q2 : (aG w 160 (10 * p1 + p2)).toInt = loR w a b := by rw [aG_n (ix10 h1 h2 ha hb)]; rfl
    have q3 : (aG w 162 (10 * p1 + p2)).toInt = fwR w a b := by rw [aG_n (ix10 h1 h2 ha hb)]; rfl
    have q4 : (aG w 162 (10 * p2 + p1)).toInt = fwR w b a := by rw [aG_n (ix10 h2 h1 hb ha)]; rfl
    refine ⟨_, ?_, e1, e2⟩
    rw [zi_add (zi_sub (zi_sub q1 q2 (by omega) (by omega)) q3 (by omega) (by omega)) q4 (by omega) (by omega)]
    rfl
theorem fwR_s (hS : SK w) (ha : a < 10) (hb : b < 10) (hx : x.toInt = (10 * a + b : Nat)) (i j : Nat) (hi : i < 10) (hj : j < 10) : fwR (aS w 162 x y) i j = if i = a ∧ j = b then y.toInt else fwR w i j := by
  unfold fwR
  rw [gA_aS (SK_isA hS (by decide +kernel)), i_nat hx, getD_set (by rw [l162 hS]; omega)]
  by_cases e : i = a ∧ j = b
  · rw [if_pos (by omega), if_pos e]
  · rw [if_neg (by omega), if_neg e]
theorem mo_162 : moR (aS w 162 x y) = moR w := by funext i j; unfold moR; rw [gA_aS_ne (by decide)]
theorem lo_162 : loR (aS w 162 x y) = loR w := by funext i j; unfold loR; rw [gA_aS_ne (by decide)]
/-- one of two ways is empty -/
def CPL (w : pm_W) : Prop := ∀ a b, a < 10 → b < 10 → a ≠ b → fwR w a b = 0 ∨ fwR w b a = 0
theorem F281 (hS : SK w) (hR : RGr w) (hC : CPL w) (h1 : p1.toInt = a) (h2 : p2.toInt = b) (ha : a < 10) (hb : b < 10) (hne : a ≠ b) (h3 : p3.toInt = d) (hd : 0 ≤ d) (hd2 : d ≤ 1000000) (h : PS X k 281 0 [.ref 147, .int p1, .int p2, .int p3, pm_dead] [] w r w') : r = none ∧ FM [] [162] w w' ∧ PSH (rsR w) (rsR w') 10 a b d ∧ CPL w' ∧ (∀ i j, i < 10 → j < 10 → 0 ≤ fwR w' i j) ∧ ∀ i j, i < 10 → j < 10 → i = j → fwR w' i j = fwR w i j := by
  cases k with
  | zero => exact (PS_0 h).elim
  | succ k =>
    obtain ⟨_, h⟩ := U281_0 hS h
    obtain ⟨_, _, _, _, f1, f2⟩ := hR.1 a b ha hb
    obtain ⟨_, _, _, _, g1, g2⟩ := hR.1 b a hb ha
    have q3 : (aG w 162 (10 * p1 + p2)).toInt = fwR w a b := by rw [aG_n (ix10 h1 h2 ha hb)]; rfl
    have q4 : (aG w 162 (10 * p2 + p1)).toInt = fwR w b a := by rw [aG_n (ix10 h2 h1 hb ha)]; rfl
    have i1 := ix10 h1 h2 ha hb
    have i2 := ix10 h2 h1 hb ha
    -- both stores
    have fin : ∀ y1 y2 : Int32, ∀ bk : Int, y1.toInt = fwR w b a - bk → y2.toInt = fwR w a b + (d - bk) → 0 ≤ bk → bk ≤ d → bk ≤ fwR w b a → (fwR w b a - bk = 0 ∨ fwR w a b + (d - bk) = 0) → r = none → w' = aS (aS w 162 (10 * p2 + p1) y1) 162 (10 * p1 + p2) y2 → r = none ∧ FM [] [162] w w' ∧ PSH (rsR w) (rsR w') 10 a b d ∧ CPL w' ∧ (∀ i j, i < 10 → j < 10 → 0 ≤ fwR w' i j) ∧ ∀ i j, i < 10 → j < 10 → i = j → fwR w' i j = fwR w i j := by
      intro y1 y2 bk e1 e2 b1 b2 b3 b4 er ew
      have S1 : SK (aS w 162 (10 * p2 + p1) y1) := SK_aS hS
      have fl : ∀ i j, i < 10 → j < 10 → fwR w' i j = if i = a ∧ j = b then fwR w a b + (d - bk) else if i = b ∧ j = a then fwR w b a - bk else fwR w i j := by
        intro i j hi hj
        rw [ew, fwR_s S1 ha hb i1 i j hi hj, fwR_s hS hb ha i2 i j hi hj, e1, e2]
      have hm : moR w' = moR w := by rw [ew, mo_162, mo_162]
      have hl : loR w' = loR w := by rw [ew, lo_162, lo_162]
      refine ⟨er, by rw [ew]; exact FM_trans (FM_aS hS (by decide)) (FM_aS S1 (by decide)), fun i j hi hj => ?_, fun i j hi hj hij => ?_, fun i j hi hj => ?_, fun i j hi hj hij => ?_⟩
      · unfold rsR
        rw [hm, hl, fl i j hi hj, fl j i hj hi]
        by_cases c1 : i = a ∧ j = b
        · obtain ⟨c1, c2⟩ := c1
          subst c1
          subst c2
          rw [if_pos ⟨rfl, rfl⟩, if_neg (fun z => hne z.2), if_pos ⟨rfl, rfl⟩, if_pos ⟨rfl, rfl⟩, if_neg (fun z => hne z.1)]
          omega
        · by_cases c2 : i = b ∧ j = a
          · obtain ⟨c2, c3⟩ := c2
            subst c2
            subst c3
            rw [if_neg (fun z => hne z.2), if_pos ⟨rfl, rfl⟩, if_pos ⟨rfl, rfl⟩, if_neg (fun z => hne z.2), if_pos ⟨rfl, rfl⟩]
            omega
          · rw [if_neg c1, if_neg c2, if_neg (fun z => c2 ⟨z.2, z.1⟩), if_neg (fun z => c1 ⟨z.2, z.1⟩), if_neg c1, if_neg c2]
            omega
      · rw [fl i j hi hj, fl j i hj hi]
        by_cases c1 : i = a ∧ j = b
        · obtain ⟨c1, c2⟩ := c1
          subst c1
          subst c2
          rw [if_pos ⟨rfl, rfl⟩, if_neg (fun z => hne z.2), if_pos ⟨rfl, rfl⟩]
          exact b4.symm
        · by_cases c2 : i = b ∧ j = a
          · obtain ⟨c2, c3⟩ := c2
            subst c2
            subst c3
            rw [if_neg (fun z => hne z.2), if_pos ⟨rfl, rfl⟩, if_pos ⟨rfl, rfl⟩]
            exact b4
          · rw [if_neg c1, if_neg c2, if_neg (fun z => c2 ⟨z.2, z.1⟩), if_neg (fun z => c1 ⟨z.2, z.1⟩)]
            exact hC i j hi hj hij
      · rw [fl i j hi hj]
        by_cases c1 : i = a ∧ j = b
        · rw [if_pos c1]; omega
        · rw [if_neg c1]
          by_cases c2 : i = b ∧ j = a
          · rw [if_pos c2]; omega
          · rw [if_neg c2]; exact (hR.1 i j hi hj).2.2.2.2.1
      · rw [fl i j hi hj, if_neg (fun z => hne (z.1.symm.trans (hij.trans z.2))), if_neg (fun z => hne (z.2.symm.trans (hij.symm.trans z.1)))]
    by_cases c : p3 ≤ aG w 162 (10 * p2 + p1)
    · rw [if_pos c] at h
      rw [Int32.le_iff_toInt_le, q4, h3] at c
      obtain ⟨_, _, h⟩ := h
      have h := h _ rfl
      obtain ⟨_, _, h⟩ := h
      obtain ⟨e1, e2⟩ := h _ rfl
      have S1 : SK (aS w 162 (10 * p2 + p1) (aG w 162 (10 * p2 + p1) - p3)) := SK_aS hS
      have v2 : (aG (aS w 162 (10 * p2 + p1) (aG w 162 (10 * p2 + p1) - p3)) 162 (10 * p1 + p2)).toInt = fwR w a b := by
        rw [aG_n i1]
        show fwR _ a b = _
        rw [fwR_s hS hb ha i2 a b ha hb, if_neg (fun z => hne z.1)]
      refine fin _ _ d (zi_sub q4 h3 (by omega) (by omega)) ?_ hd (Int.le_refl _) c ?_ e1 e2
      · rw [zi_add v2 (zi_sub h3 h3 (by omega) (by omega)) (by omega) (by omega)]
      · rcases hC a b ha hb hne with q | q
        · right; omega
        · left; omega
    · rw [if_neg c] at h
      rw [Int32.le_iff_toInt_le, q4, h3] at c
      obtain ⟨_, _, _, h⟩ := h
      have h := h _ rfl
      obtain ⟨_, _, h⟩ := h
      obtain ⟨e1, e2⟩ := h _ rfl
      have S1 : SK (aS w 162 (10 * p2 + p1) (aG w 162 (10 * p2 + p1) - aG w 162 (10 * p2 + p1))) := SK_aS hS
      have v2 : (aG (aS w 162 (10 * p2 + p1) (aG w 162 (10 * p2 + p1) - aG w 162 (10 * p2 + p1))) 162 (10 * p1 + p2)).toInt = fwR w a b := by
        rw [aG_n i1]
        show fwR _ a b = _
        rw [fwR_s hS hb ha i2 a b ha hb, if_neg (fun z => hne z.1)]
      refine fin _ _ (fwR w b a) (zi_sub q4 q4 (by omega) (by omega)) ?_ g1 (by omega) (Int.le_refl _) (Or.inl (by omega)) e1 e2
      rw [zi_add v2 (zi_sub h3 q4 (by omega) (by omega)) (by omega) (by omega)]
/-! the way -/
theorem fmR_s (hS : SK w) (hx : x.toInt = a) (ha : a < 10) (q : Nat) : fmR (aS w 164 x y) q = if q = a then y else fmR w q := by
  unfold fmR
  rw [gA_aS (SK_isA hS (by decide +kernel)), i_nat hx, getD_set (by rw [l164 hS]; exact ha)]
def lbR (w : pm_W) (x : Nat) : Prop := 0 ≤ (fmR w x).toInt
def WI0 (w0 w : pm_W) (ρ : Nat → Nat) (T : Nat) : Prop := FM [] [164] w0 w ∧ (∀ x : Nat, x < 10 → lbR w x → ((fmR w x).toInt = x ∧ 0 < ovR w0 x) ∨ ∃ p : Nat, p < 10 ∧ (fmR w x).toInt = p ∧ p ≠ x ∧ lbR w p ∧ ρ p < ρ x ∧ 0 < rsR w0 p x) ∧ (∀ x : Nat, x < 10 → lbR w x → ρ x < T) ∧ ∀ x : Nat, x < 10 → 0 < ovR w0 x → lbR w x
def WI (w0 w : pm_W) (ρ : Nat → Nat) (T : Nat) : Prop := WI0 w0 w ρ T ∧ ∀ x : Nat, x < 10 → lbR w x → 0 ≤ ovR w0 x
theorem WI_new (hW : WI0 w0 w ρ T) (hy : y.toInt = a) (ha : a < 10) (hla : lbR w a) (hx : x.toInt = b) (hb : b < 10) (hlb : ¬ lbR w b) (hr : 0 < rsR w0 a b) : WI0 w0 (aS w 164 x y) (fun q => if q = b then T else ρ q) (T + 1) := by
  obtain ⟨fm, h1, h2, h3⟩ := hW
  have S1 : SK w := fm.2.2.2
  have ec : ∀ q, fmR (aS w 164 x y) q = if q = b then y else fmR w q := fmR_s S1 hx hb
  have lb : ∀ q, lbR (aS w 164 x y) q ↔ q = b ∨ lbR w q := by
    intro q
    unfold lbR
    rw [ec]
    by_cases e : q = b
    · rw [if_pos e, hy]; exact ⟨fun _ => Or.inl e, fun _ => by omega⟩
    · rw [if_neg e]; exact ⟨Or.inr, fun z => z.elim (fun z => absurd z e) id⟩
  have hab : a ≠ b := fun e => hlb (e ▸ hla)
  refine ⟨FM_trans fm (FM_aS S1 (by decide)), fun q hq hl => ?_, fun q hq hl => ?_, fun q hq ho => (lb q).mpr (Or.inr (h3 q hq ho))⟩
  · rw [ec]
    by_cases e : q = b
    · right
      rw [if_pos e]
      refine ⟨a, ha, hy, by rw [e]; exact hab, (lb a).mpr (Or.inr hla), ?_, by rw [e]; exact hr⟩
      show (if a = b then T else ρ a) < (if q = b then T else ρ q)
      rw [if_neg hab, if_pos e]
      exact h2 a ha hla
    · rw [if_neg e]
      have hl := ((lb q).mp hl).resolve_left e
      rcases h1 q hq hl with c | ⟨p, c1, c2, c3, c4, c5, c6⟩
      · exact Or.inl c
      · right
        refine ⟨p, c1, c2, c3, (lb p).mpr (Or.inr c4), ?_, c6⟩
        show (if p = b then T else ρ p) < (if q = b then T else ρ q)
        rw [if_neg (show ¬ p = b from fun e => hlb (e ▸ c4)), if_neg e]
        exact c5
  · show (if q = b then T else ρ q) < T + 1
    by_cases e : q = b
    · rw [if_pos e]; omega
    · rw [if_neg e]
      have := h2 q hq (((lb q).mp hl).resolve_left e)
      omega
/-- no way, a way -/
def NOWr (w w' : pm_W) : Prop := ∃ ρ T, WI w w' ρ T ∧ ∀ a b, a < 10 → b < 10 → lbR w' a → ¬ lbR w' b → rsR w a b ≤ 0
def WAYr (w w' : pm_W) (b : Nat) : Prop := ∃ ρ T, WI0 w w' ρ T ∧ b < 10 ∧ lbR w' b ∧ ovR w b < 0
theorem F279_l (hR : RGr w0) : ∀ k : Nat,
    (∀ (w : pm_W) (ρ : Nat → Nat) (T : Nat) (i1 : Int32) (u2 u3 : Value), WI w0 w ρ T → (i1 = 0 → ∀ a b, a < 10 → b < 10 → lbR w a → ¬ lbR w b → rsR w0 a b ≤ 0) → PS X k 279 36 [.ref 147, .int i1, u2, u3] [] w r w' → FM [] [164] w0 w' ∧ ((r = some (.int (-1)) ∧ NOWr w0 w') ∨ ∃ (z : Int32) (b : Nat), r = some (.int z) ∧ z.toInt = b ∧ WAYr w0 w' b)) ∧
    (∀ (w : pm_W) (ρ : Nat → Nat) (T A : Nat) (i1 i2 : Int32) (u3 : Value), WI w0 w ρ T → i2.toInt = A → A ≤ 10 → (i1 = 0 → ∀ a b, a < A → b < 10 → lbR w a → ¬ lbR w b → rsR w0 a b ≤ 0) → PS X k 279 44 [.ref 147, .int i1, .int i2, u3] [] w r w' → FM [] [164] w0 w' ∧ ((r = some (.int (-1)) ∧ NOWr w0 w') ∨ ∃ (z : Int32) (b : Nat), r = some (.int z) ∧ z.toInt = b ∧ WAYr w0 w' b)) ∧
    (∀ (w : pm_W) (ρ : Nat → Nat) (T A B : Nat) (i1 i2 i3 : Int32), WI w0 w ρ T → i2.toInt = A → A < 10 → i3.toInt = B → B ≤ 10 → (i1 = 0 → ∀ a b, a < A → b < 10 → lbR w a → ¬ lbR w b → rsR w0 a b ≤ 0) → (i1 = 0 → ∀ b, b < B → lbR w A → ¬ lbR w b → rsR w0 A b ≤ 0) → PS X k 279 52 [.ref 147, .int i1, .int i2, .int i3] [] w r w' → FM [] [164] w0 w' ∧ ((r = some (.int (-1)) ∧ NOWr w0 w') ∨ ∃ (z : Int32) (b : Nat), r = some (.int z) ∧ z.toInt = b ∧ WAYr w0 w' b)) := by
  intro k
  induction k with
  | zero => exact ⟨fun _ _ _ _ _ _ _ _ h => (PS_0 h).elim, fun _ _ _ _ _ _ _ _ _ _ _ h => (PS_0 h).elim, fun _ _ _ _ _ _ _ _ _ _ _ _ _ _ _ h => (PS_0 h).elim⟩
  | succ k ih =>
    obtain ⟨ih36, ih44, ih52⟩ := ih
    refine ⟨fun w ρ T i1 u2 u3 hW hc h => ?_, fun w ρ T A i1 i2 u3 hW h2 hA hc h => ?_, fun w ρ T A B i1 i2 i3 hW h2 hA h3 hB hc hc2 h => ?_⟩
    · have hS : SK w := hW.1.1.2.2.2
      have h := U279_36 hS h
      by_cases c : i1 = 0
      · rw [if_pos c] at h
        rw [h.2]
        exact ⟨hW.1.1, Or.inl ⟨h.1, ρ, T, hW, hc c⟩⟩
      · rw [if_neg c] at h
        exact ih44 w ρ T 0 0 0 u3 hW z32 (by omega) (fun _ a b ha => absurd ha (Nat.not_lt_zero a)) h
    · have hS : SK w := hW.1.1.2.2.2
      have h := U279_44 hS h
      by_cases c : 10 ≤ i2
      · rw [if_pos c] at h
        rw [Int32.le_iff_toInt_le, ten32, h2] at c
        have e : A = 10 := by omega
        rw [e] at hc
        exact ih36 w ρ T i1 _ _ hW hc h
      · rw [if_neg c] at h
        rw [Int32.le_iff_toInt_le, ten32, h2] at c
        exact ih52 w ρ T A 0 i1 i2 0 hW h2 (by omega) z32 (by omega) hc (fun _ b hb => absurd hb (Nat.not_lt_zero b)) h
    · have fm := hW.1.1
      have hS : SK w := fm.2.2.2
      have h := U279_52 hS h
      by_cases c : 10 ≤ i3
      · rw [if_pos c] at h
        rw [Int32.le_iff_toInt_le, ten32, h3] at c
        have e : B = 10 := by omega
        rw [e] at hc2
        refine ih44 w ρ T (A + 1) i1 _ _ hW (by rw [zi_inc (n := 40) (by omega) (by omega), h2]; rfl) (by omega) (fun q a b ha hb hla hlb => ?_) h
        by_cases e2 : a = A
        · rw [e2] at hla ⊢; exact hc2 q b hb hla hlb
        · exact hc q a b (by omega) hb hla hlb
      · rw [if_neg c] at h
        rw [Int32.le_iff_toInt_le, ten32, h3] at c
        have hB10 : B < 10 := by omega
        have e1 : (i3 + 1).toInt = ((B + 1 : Nat) : Int) := by rw [zi_inc (n := 40) (by omega) (by omega), h3]; rfl
        have skip : (lbR w A → ¬ lbR w B → rsR w0 A B ≤ 0) → PS X k 279 52 [.ref 147, .int i1, .int i2, .int (i3 + 1)] [] w r w' → FM [] [164] w0 w' ∧ ((r = some (.int (-1)) ∧ NOWr w0 w') ∨ ∃ (z : Int32) (b : Nat), r = some (.int z) ∧ z.toInt = b ∧ WAYr w0 w' b) := by
          intro hs h
          refine ih52 w ρ T A (B + 1) i1 i2 _ hW h2 hA e1 (by omega) hc (fun q b hb hla hlb => ?_) h
          by_cases e : b = B
          · rw [e] at hlb ⊢; exact hs hla hlb
          · exact hc2 q b (by omega) hla hlb
        obtain ⟨_, h⟩ := h
        rw [show aG w 164 i2 = fmR w A from aG_n h2] at h
        by_cases c1 : fmR w A < 0
        · rw [if_pos c1] at h
          rw [Int32.lt_iff_toInt_lt, z32] at c1
          exact skip (fun hl => by unfold lbR at hl; omega) h
        · rw [if_neg c1] at h
          rw [Int32.lt_iff_toInt_lt, z32] at c1
          have hlA : lbR w A := by unfold lbR; omega
          obtain ⟨_, h⟩ := h
          rw [show aG w 164 i3 = fmR w B from aG_n h3] at h
          by_cases c2 : 0 ≤ fmR w B
          · rw [if_pos c2] at h
            rw [Int32.le_iff_toInt_le, z32] at c2
            exact skip (fun _ hl => absurd c2 hl) h
          · rw [if_neg c2] at h
            rw [Int32.le_iff_toInt_le, z32] at c2
            have hlB : ¬ lbR w B := c2
            by_cases c3 : i2 = i3
            · rw [if_pos c3] at h
              have e : A = B := by rw [c3, h3] at h2; omega
              exact absurd (e ▸ hlA) hlB
            · rw [if_neg c3] at h
              have em : moR w = moR w0 := by funext i j; unfold moR; rw [FM_a fm (by decide)]
              have el : loR w = loR w0 := by funext i j; unfold loR; rw [FM_a fm (by decide)]
              have ef : fwR w = fwR w0 := by funext i j; unfold fwR; rw [FM_a fm (by decide)]
              have eo : ovR w = ovR w0 := by funext i; unfold ovR; rw [FM_a fm (by decide)]
              have hRw : RGr w := by unfold RGr; rw [em, el, ef, eo]; exact hR
              have er : rsR w = rsR w0 := by funext i j; unfold rsR; rw [em, el, ef]
              obtain ⟨z, hz, h⟩ := use_z hS h (fun _ _ y => F280 hS hRw h2 h3 hA hB10 y)
              rw [er] at hz
              by_cases c4 : 0 < z
              · rw [if_pos c4] at h
                rw [Int32.lt_iff_toInt_lt, z32, hz] at c4
                obtain ⟨_, h⟩ := h
                have h := h _ rfl
                have S1 : SK (aS w 164 i3 i2) := SK_aS hS
                have hN := WI_new hW.1 h2 hA hlA h3 hB10 hlB c4
                obtain ⟨_, h⟩ := h
                have eov : (aG (aS w 164 i3 i2) 163 i3).toInt = ovR w0 B := by
                  rw [aG_n h3, gA_aS_ne (by decide), FM_a fm (by decide)]
                  rfl
                have ec := fmR_s hS h3 hB10 (y := i2)
                have lb : ∀ q, lbR (aS w 164 i3 i2) q ↔ q = B ∨ lbR w q := by
                  intro q
                  unfold lbR
                  rw [ec]
                  by_cases e : q = B
                  · rw [if_pos e, h2]; exact ⟨fun _ => Or.inl e, fun _ => by omega⟩
                  · rw [if_neg e]; exact ⟨Or.inr, fun z => z.elim (fun z => absurd z e) id⟩
                by_cases c5 : 0 ≤ aG (aS w 164 i3 i2) 163 i3
                · rw [if_pos c5] at h
                  rw [Int32.le_iff_toInt_le, z32, eov] at c5
                  have n10 : ¬ ((1 : Int32) = 0) := by decide +kernel
                  refine ih52 _ _ (T + 1) A (B + 1) 1 i2 _ ⟨hN, fun q hq hl => ?_⟩ h2 hA e1 (by omega) (fun q => absurd q n10) (fun q => absurd q n10) h
                  rcases (lb q).mp hl with e | hl
                  · rw [e]; exact c5
                  · exact hW.2 q hq hl
                · rw [if_neg c5] at h
                  rw [Int32.le_iff_toInt_le, z32, eov] at c5
                  rw [h.2]
                  exact ⟨hN.1, Or.inr ⟨i3, B, h.1, h3, _, _, hN, hB10, (lb B).mpr (Or.inl rfl), by omega⟩⟩
              · rw [if_neg c4] at h
                rw [Int32.lt_iff_toInt_lt, z32, hz] at c4
                exact skip (fun _ _ => by omega) h
theorem F279 (hS : SK w) (hR : RGr w) (h : PS X k 279 0 [.ref 147, pm_dead, pm_dead, pm_dead] [] w r w') : FM [] [164] w w' ∧ ((r = some (.int (-1)) ∧ NOWr w w') ∨ ∃ (z : Int32) (b : Nat), r = some (.int z) ∧ z.toInt = b ∧ WAYr w w' b) := by
  have lp : ∀ (k A : Nat) (w1 : pm_W) (i1 : Int32), FM [] [164] w w1 → i1.toInt = A → A ≤ 10 → (∀ x : Nat, x < A → (0 < ovR w x ∧ (fmR w1 x).toInt = x) ∨ (ovR w x ≤ 0 ∧ fmR w1 x = -1)) → PS X k 279 2 [.ref 147, .int i1, pm_dead, pm_dead] [] w1 r w' → FM [] [164] w w' ∧ ((r = some (.int (-1)) ∧ NOWr w w') ∨ ∃ (z : Int32) (b : Nat), r = some (.int z) ∧ z.toInt = b ∧ WAYr w w' b) := by
    intro k
    induction k with
    | zero => intro A w1 i1 _ _ _ _ h; exact (PS_0 h).elim
    | succ k ih =>
      intro A w1 i1 fm h1 hA hx h
      have S1 : SK w1 := fm.2.2.2
      have h := U279_2 S1 h
      by_cases c : 10 ≤ i1
      · rw [if_pos c] at h
        rw [Int32.le_iff_toInt_le, ten32, h1] at c
        have e : A = 10 := by omega
        rw [e] at hx
        have m1 : (-1 : Int32).toInt = -1 := by decide +kernel
        refine (F279_l hR k).1 w1 (fun _ => 0) 1 1 _ _ ⟨⟨fm, fun x hx10 hl => ?_, fun _ _ _ => by show (0 : Nat) < 1; omega, fun x hx10 ho => ?_⟩, fun x hx10 hl => ?_⟩ (fun q => absurd q (by decide +kernel)) h
        · rcases hx x hx10 with ⟨a1, a2⟩ | ⟨a1, a2⟩
          · exact Or.inl ⟨a2, a1⟩
          · unfold lbR at hl
            rw [a2, m1] at hl
            omega
        · rcases hx x hx10 with ⟨a1, a2⟩ | ⟨a1, a2⟩
          · unfold lbR; omega
          · omega
        · rcases hx x hx10 with ⟨a1, a2⟩ | ⟨a1, a2⟩
          · omega
          · unfold lbR at hl
            rw [a2, m1] at hl
            omega
      · rw [if_neg c] at h
        rw [Int32.le_iff_toInt_le, ten32, h1] at c
        have e1 : (i1 + 1).toInt = ((A + 1 : Nat) : Int) := by rw [zi_inc (n := 40) (by omega) (by omega), h1]; rfl
        obtain ⟨_, h⟩ := h
        have eo : (aG w1 163 i1).toInt = ovR w A := by rw [aG_n h1, FM_a fm (by decide)]; rfl
        by_cases c2 : aG w1 163 i1 ≤ 0
        · rw [if_pos c2] at h
          rw [Int32.le_iff_toInt_le, z32, eo] at c2
          obtain ⟨_, h⟩ := h
          have h := h _ rfl
          refine ih (A + 1) _ _ (FM_trans fm (FM_aS S1 (by decide))) e1 (by omega) (fun x hxA => ?_) h
          rw [fmR_s S1 h1 (by omega)]
          by_cases e : x = A
          · rw [if_pos e, e]; exact Or.inr ⟨c2, rfl⟩
          · rw [if_neg e]; exact hx x (by omega)
        · rw [if_neg c2] at h
          rw [Int32.le_iff_toInt_le, z32, eo] at c2
          obtain ⟨_, h⟩ := h
          have h := h _ rfl
          refine ih (A + 1) _ _ (FM_trans fm (FM_aS S1 (by decide))) e1 (by omega) (fun x hxA => ?_) h
          rw [fmR_s S1 h1 (by omega)]
          by_cases e : x = A
          · rw [if_pos e, e]; exact Or.inl ⟨by omega, h1⟩
          · rw [if_neg e]; exact hx x (by omega)
  cases k with
  | zero => exact (PS_0 h).elim
  | succ k => exact lp k 0 w 0 (FM_refl hS) z32 (by omega) (fun x hx => absurd hx (Nat.not_lt_zero x)) (U279_0 hS h)
end IIW
end
section
/-! ===== the reference's flows: evens ===== -/
section IJE
variable {X : pm_X} {k k2 : Nat} {w0 w w1 w2 w3 w4 wj w' : pm_W} {r r2 q0 q1 q2 : Option Value} {p1 p2 p3 p4 i1 i2 i3 i4 i5 i6 z z1 z2 x y : Int32} {i v j m u P t s b Q B I J K n a T p : Nat} {ρ : Nat → Nat} {c : Nat → Nat → Int} {d : Int}
def prR (w : pm_W) (x : Nat) : Nat := (fmR w x).toInt.toNat
def lbb (w : pm_W) (x : Nat) : Bool := decide (0 ≤ (fmR w x).toInt)
theorem lbb_t {w : pm_W} {x : Nat} (h : lbb w x = true) : lbR w x := of_decide_eq_true (p := 0 ≤ (fmR w x).toInt) h
theorem lbb_f {w : pm_W} {x : Nat} (h : lbb w x = false) : ¬ lbR w x := of_decide_eq_false (p := 0 ≤ (fmR w x).toInt) h
def rtR (w : pm_W) (x : Nat) : Bool := decide ((fmR w x).toInt = x)
/-- what the law puts in -/
def EV0 (w : pm_W) : Prop := (∀ a b, a < 10 → b < 10 → -1000000 ≤ moR w a b ∧ moR w a b ≤ 1000000 ∧ -1000000 ≤ loR w a b ∧ loR w a b ≤ 1000000 ∧ cR w a b ≤ 1000000) ∧ ∀ a, a < 10 → -1000000 ≤ ovR w a ∧ ovR w a ≤ 1000000
def FLs (w0 w : pm_W) : Prop := FM [] [162, 163, 164] w0 w ∧ CPL w ∧ (∀ i j, i < 10 → j < 10 → 0 ≤ fwR w i j) ∧ ∀ i, i < 10 → fwR w i i = 0
def EV (w0 w : pm_W) : Prop := FLs w0 w ∧ FLW (cR w0) (rsR w) 10 ∧ (∀ a, a < 10 → gone (cR w0) (rsR w) 10 a = ovR w0 a - ovR w a) ∧ OV (ovR w0) (ovR w) 10
theorem mo_fm {fs : List (Nat × Nat)} {as : List Nat} (h : FM fs as w w') (n : 161 ∉ as) : moR w' = moR w := by funext i j; unfold moR; rw [FM_a h n]
theorem lo_fm {fs : List (Nat × Nat)} {as : List Nat} (h : FM fs as w w') (n : 160 ∉ as) : loR w' = loR w := by funext i j; unfold loR; rw [FM_a h n]
theorem fw_fm {fs : List (Nat × Nat)} {as : List Nat} (h : FM fs as w w') (n : 162 ∉ as) : fwR w' = fwR w := by funext i j; unfold fwR; rw [FM_a h n]
theorem ov_fm {fs : List (Nat × Nat)} {as : List Nat} (h : FM fs as w w') (n : 163 ∉ as) : ovR w' = ovR w := by funext i; unfold ovR; rw [FM_a h n]
theorem fm_fm {fs : List (Nat × Nat)} {as : List Nat} (h : FM fs as w w') (n : 164 ∉ as) : fmR w' = fmR w := by funext i; unfold fmR; rw [FM_a h n]
theorem rs_e (h1 : moR w' = moR w) (h2 : loR w' = loR w) (h3 : fwR w' = fwR w) : rsR w' = rsR w := by funext i j; unfold rsR; rw [h1, h2, h3]
theorem OV_b (h0 : EV0 w0) (hO : OV (ovR w0) (ovR w) 10) (ha : a < 10) : -1000000 ≤ ovR w a ∧ ovR w a ≤ 1000000 := by
  have q := hO a ha
  have q2 := h0.2 a ha
  by_cases c : 0 ≤ ovR w0 a
  · have := q.1 c; omega
  · have := q.2 (by omega); omega
theorem EV_RG (h0 : EV0 w0) (hf : FLs w0 w) (hF : FLW (cR w0) (rsR w) 10) (hov : ∀ a, a < 10 → -1000000 ≤ ovR w a ∧ ovR w a ≤ 1000000) : RGr w := by
  have em := mo_fm hf.1 (by decide)
  have el := lo_fm hf.1 (by decide)
  refine ⟨fun a b ha hb => ?_, hov⟩
  rw [em, el]
  obtain ⟨m1, m2, m3, m4, m5⟩ := h0.1 a b ha hb
  refine ⟨m1, m2, m3, m4, hf.2.2.1 a b ha hb, ?_⟩
  by_cases e : a = b
  · rw [← e, hf.2.2.2 a ha]; omega
  · have q := hF.1 a b ha hb e
    have q2 := hf.2.2.1 a b ha hb
    unfold rsR at q
    rw [em, el] at q
    unfold cR at m5
    rcases hf.2.1 a b ha hb e with z | z
    · omega
    · omega
theorem WI_PTH (hW : WI0 w0 w ρ T) : PTH 10 (prR w) (lbb w) (rtR w) ρ := by
  intro x hx hl
  rcases hW.2.1 x hx (lbb_t hl) with ⟨a1, _⟩ | ⟨p, h1, h2, h3, h4, h5, h6⟩
  · exact Or.inl (decide_eq_true a1)
  · right
    have e : prR w x = p := by unfold prR; omega
    rw [e]
    exact ⟨h1, decide_eq_true h4, h5⟩
theorem WI_rt (hW : WI0 w0 w ρ T) (hx : a < 10) (hl : lbb w a = true) (hr : rtR w a = true) : 0 < ovR w0 a := by
  have hr := of_decide_eq_true hr
  rcases hW.2.1 a hx (lbb_t hl) with ⟨_, a1⟩ | ⟨p, h1, h2, h3, _⟩
  · exact a1
  · exact absurd (by omega) h3
theorem WI_nr (hW : WI0 w0 w ρ T) (hx : a < 10) (hl : lbb w a = true) (hr : rtR w a = false) : (fmR w a).toInt = prR w a ∧ prR w a < 10 ∧ prR w a ≠ a ∧ 0 < rsR w0 (prR w a) a := by
  have hr := of_decide_eq_false hr
  rcases hW.2.1 a hx (lbb_t hl) with ⟨a1, _⟩ | ⟨p, h1, h2, h3, _, _, h6⟩
  · exact absurd a1 hr
  · have e : prR w a = p := by unfold prR; omega
    rw [e]
    exact ⟨h2, h1, h3, h6⟩
theorem ovR_s (hS : SK w) (hx : x.toInt = a) (ha : a < 10) (q : Nat) : ovR (aS w 163 x y) q = if q = a then y.toInt else ovR w q := by
  unfold ovR
  rw [gA_aS (SK_isA hS (by decide +kernel)), i_nat hx, getD_set (by rw [l163 hS]; exact ha)]
  by_cases e : q = a
  · rw [if_pos e, if_pos e]
  · rw [if_neg e, if_neg e]
/-- what evens answers -/
def EVR (w0 w' : pm_W) (r : Option Value) : Prop := FM [] [162, 163, 164] w0 w' ∧ ∃ b : Bool, r = some (.int (b2i b)) ∧ MCo (cR w0) (ovR w0) 10 (suI (fun a => psI (ovR w0 a)) 10 - suI (fun a => psI (ovR w' a)) 10) ∧ OV (ovR w0) (ovR w') 10 ∧ (b = true ↔ ∀ a, a < 10 → ovR w' a ≤ 0)
theorem F278_164 (hS : SK w) : ∀ (k A : Nat) (i1 i2 i3 : Int32) (u4 : Value), i3.toInt = A → A ≤ 10 → ((i2 = 1 ∧ ∀ a, a < A → ovR w a ≤ 0) ∨ (i2 = 0 ∧ ∃ a, a < 10 ∧ 0 < ovR w a)) → PS X k 278 164 [.ref 147, .int i1, .int i2, .int i3, u4] [] w r w' → w' = w ∧ ∃ b : Bool, r = some (.int (b2i b)) ∧ (b = true ↔ ∀ a, a < 10 → ovR w a ≤ 0) := by
  intro k
  induction k using Nat.strongRecOn with
  | _ k ih =>
    intro A i1 i2 i3 u4 h3 hA hc h
    match k, ih, h with
    | 0, _, h => exact (PS_0 h).elim
    | k + 1, ih, h =>
      have h := U278_164 hS h
      by_cases c : 10 ≤ i3
      · rw [if_pos c] at h
        rw [Int32.le_iff_toInt_le, ten32, h3] at c
        rcases hc with ⟨e, q⟩ | ⟨e, a, q1, q2⟩
        · exact ⟨h.2, true, by rw [h.1, e]; rfl, fun _ a ha => q a (by omega), fun _ => rfl⟩
        · exact ⟨h.2, false, by rw [h.1, e]; rfl, fun z => Bool.noConfusion z, fun z => by have := z a q1; omega⟩
      · rw [if_neg c] at h
        rw [Int32.le_iff_toInt_le, ten32, h3] at c
        have e1 : (i3 + 1).toInt = ((A + 1 : Nat) : Int) := by rw [zi_inc (n := 40) (by omega) (by omega), h3]; rfl
        have go : (∃ a, a < 10 ∧ 0 < ovR w a) → PS X k 278 187 [.ref 147, .int i1, .int i2, .int i3, u4] [] w r w' → w' = w ∧ ∃ b : Bool, r = some (.int (b2i b)) ∧ (b = true ↔ ∀ a, a < 10 → ovR w a ≤ 0) := by
          intro hex h
          match k, ih, h with
          | 0, _, h => exact (PS_0 h).elim
          | k + 1, ih, h => exact ih k (by omega) (A + 1) _ _ _ _ e1 (by omega) (Or.inr ⟨rfl, hex⟩) (U278_187 hS h)
        by_cases c2 : i2 = 0
        · rw [if_pos c2] at h
          rcases hc with ⟨e, q⟩ | ⟨e, q⟩
          · rw [c2] at e; exact absurd e (by decide +kernel)
          · exact go q h
        · rw [if_neg c2] at h
          obtain ⟨_, h⟩ := h
          have eo : (aG w 163 i3).toInt = ovR w A := by rw [aG_n h3]; rfl
          by_cases c3 : 0 < aG w 163 i3
          · rw [if_pos c3] at h
            rw [Int32.lt_iff_toInt_lt, z32, eo] at c3
            exact go ⟨A, by omega, c3⟩ h
          · rw [if_neg c3] at h
            rw [Int32.lt_iff_toInt_lt, z32, eo] at c3
            rcases hc with ⟨e, q⟩ | ⟨e, q⟩
            · refine ih k (by omega) (A + 1) _ _ _ _ e1 (by omega) (Or.inl ⟨rfl, fun a ha => ?_⟩) h
              by_cases e2 : a = A
              · rw [e2]; omega
              · exact q a (by omega)
            · exact absurd e c2
theorem F278_l (h0 : EV0 w0) : ∀ k : Nat,
    (∀ (w1 w : pm_W) (i1 : Int32) (u2 u3 u4 : Value), EV w0 w1 → FM [] [164] w1 w → ((i1 = -1 ∧ NOWr w1 w) ∨ ∃ b : Nat, i1.toInt = b ∧ WAYr w1 w b) → PS X k 278 5 [.ref 147, .int i1, u2, u3, u4] [] w r w' → EVR w0 w' r) ∧
    (∀ (w1 w : pm_W) (ρ : Nat → Nat) (T b j : Nat) (i1 i2 i3 : Int32) (u4 : Value), EV w0 w1 → FM [] [164] w1 w → WI0 w1 w ρ T → b < 10 → lbb w b = true → ovR w1 b < 0 → i1.toInt = b → i3.toInt = (itr (prR w) b j : Nat) → (∀ i, i < j → rtR w (itr (prR w) b i) = false) → 0 < i2.toInt → i2.toInt ≤ -ovR w1 b → (∀ i, i < j → i2.toInt ≤ rsR w1 (itr (prR w) b (i + 1)) (itr (prR w) b i)) → PS X k 278 19 [.ref 147, .int i1, .int i2, .int i3, u4] [] w r w' → EVR w0 w' r) ∧
    (∀ (w1 w wj : pm_W) (ρ : Nat → Nat) (T b J j : Nat) (i1 i2 i3 i4 : Int32), WI0 w1 w ρ T → FM [] [162, 163] w wj → b < 10 → lbb w b = true → i1.toInt = b → i4.toInt = (itr (prR w) b j : Nat) → j ≤ J → (∀ i, i < J → rtR w (itr (prR w) b i) = false) → rtR w (itr (prR w) b J) = true → 0 < i2.toInt → i2.toInt ≤ 1000000 → FLs w0 wj → PSJ (cR w0) (rsR w1) (rsR wj) 10 (prR w) b J j i2.toInt → (∀ a, a < 10 → gone (cR w0) (rsR w1) 10 a + (if a = itr (prR w) b J then i2.toInt else 0) - (if a = b then i2.toInt else 0) = ovR w0 a - ovR wj a) → OV (ovR w0) (ovR wj) 10 → PS X k 278 114 [.ref 147, .int i1, .int i2, .int i3, .int i4] [] wj r w' → EVR w0 w' r) := by
  have m1 : (-1 : Int32).toInt = -1 := by decide +kernel
  intro k
  induction k with
  | zero => exact ⟨fun _ _ _ _ _ _ _ _ _ h => (PS_0 h).elim, fun _ _ _ _ _ _ _ _ _ _ _ _ _ _ _ _ _ _ _ _ _ _ h => (PS_0 h).elim, fun _ _ _ _ _ _ _ _ _ _ _ _ _ _ _ _ _ _ _ _ _ _ _ _ _ _ _ h => (PS_0 h).elim⟩
  | succ k ih =>
    obtain ⟨ih5, ih19, ih114⟩ := ih
    refine ⟨fun w1 w i1 u2 u3 u4 hE f1 hc h => ?_, fun w1 w ρ T b j i1 i2 i3 u4 hE f1 hW hb hlb hob h1 h3 hn hp hp2 hle h => ?_, fun w1 w wj ρ T b J j i1 i2 i3 i4 hW fj hb hlb h1 h4 hj hn hJ hp hp2 hfl hps hg hO h => ?_⟩
    · have hS : SK w := f1.2.2.2
      have h := U278_5 hS h
      have eo : ovR w = ovR w1 := ov_fm f1 (by decide)
      rcases hc with ⟨e, hno⟩ | ⟨b, hb, hway⟩
      · rw [if_pos (by rw [e]; decide +kernel)] at h
        obtain ⟨e', b, er, hbb⟩ := F278_164 hS k 0 _ _ _ _ z32 (by omega) (Or.inl ⟨rfl, fun a ha => absurd ha (Nat.not_lt_zero a)⟩) h
        obtain ⟨hf, hF, hg, hO⟩ := hE
        obtain ⟨ρ, T, hW, hcl⟩ := hno
        rw [e']
        refine ⟨FM_trans hf.1 (FM_mono f1 (by intro x hx; cases hx) (by decide)), b, er, ?_, by rw [eo]; exact hO, hbb⟩
        rw [eo]
        refine o_MC (S := lbb w) hF hg hO (fun a b ha hb h1 h2 => ?_) (fun a ha hv => ?_) (fun a ha hv => ?_)
        · have h1 : lbR w a := lbb_t h1
          have h2 : ¬ lbR w b := lbb_f h2
          have q := hcl a b ha hb h1 h2
          have q2 := hF.1 a b ha hb (fun e => h2 (e ▸ h1))
          omega
        · exact decide_eq_true (hW.1.2.2.2 a ha hv)
        · refine decide_eq_false (fun hl => ?_)
          have := hW.2 a ha hl
          omega
      · obtain ⟨ρ, T, hW, hb10, hlb, hob⟩ := hway
        rw [if_neg (by rw [Int32.lt_iff_toInt_lt, z32, hb]; omega)] at h
        obtain ⟨_, h⟩ := h
        have ev : (aG w 163 i1).toInt = ovR w1 b := by rw [aG_n hb, ← eo]; rfl
        obtain ⟨l1, l2⟩ := OV_b h0 hE.2.2.2 hb10
        have en : (-(aG w 163 i1)).toInt = -ovR w1 b := zi_neg ev (by omega) (by omega)
        exact ih19 w1 w ρ T b 0 i1 _ i1 u4 hE f1 hW hb10 (decide_eq_true hlb) hob hb hb (fun i hi => absurd hi (Nat.not_lt_zero i)) (by rw [en]; omega) (by rw [en]; omega) (fun i hi => absurd hi (Nat.not_lt_zero i)) h
    · have hS : SK w := f1.2.2.2
      have h := U278_19 hS h
      have eo : ovR w = ovR w1 := ov_fm f1 (by decide)
      have er : rsR w = rsR w1 := rs_e (mo_fm f1 (by decide)) (lo_fm f1 (by decide)) (fw_fm f1 (by decide))
      have hP := WI_PTH hW
      obtain ⟨a1, a2, _⟩ := itr_in hP hb hlb j hn
      have hRG1 := EV_RG h0 hE.1 hE.2.1 (fun a ha => OV_b h0 hE.2.2.2 ha)
      have hRG : RGr w := by
        refine ⟨fun a b ha hb => ?_, fun a ha => ?_⟩
        · rw [mo_fm f1 (by decide), lo_fm f1 (by decide), fw_fm f1 (by decide)]; exact hRG1.1 a b ha hb
        · rw [eo]; exact hRG1.2 a ha
      obtain ⟨_, h⟩ := h
      have e4 : aG w 164 i3 = fmR w (itr (prR w) b j) := aG_n h3
      rw [e4] at h
      by_cases c : fmR w (itr (prR w) b j) = i3
      · rw [if_pos c] at h
        have hrt : rtR w (itr (prR w) b j) = true := decide_eq_true (by rw [c, h3])
        have hov := WI_rt hW a1 a2 hrt
        obtain ⟨xr, hxr⟩ : ∃ xr, xr = itr (prR w) b j := ⟨_, rfl⟩
        rw [← hxr] at h3 a1 a2 hov
        have hne : xr ≠ b := fun e => by rw [e] at hov; omega
        have ev : (aG w 163 i3).toInt = ovR w1 xr := by rw [aG_n h3, ← eo]; rfl
        obtain ⟨l1, l2⟩ := OV_b h0 hE.2.2.2 a1
        obtain ⟨l3, l4⟩ := OV_b h0 hE.2.2.2 hb
        -- both stores, then the pushes
        have go : ∀ (dv y1 y2 : Int32) , 0 < dv.toInt → dv.toInt ≤ i2.toInt → dv.toInt ≤ ovR w1 xr → y1.toInt = ovR w1 xr - dv.toInt → y2.toInt = ovR w1 b + dv.toInt → PS X k 278 114 [.ref 147, .int i1, .int dv, .int i3, .int i1] [] (aS (aS w 163 i3 y1) 163 i1 y2) r w' → EVR w0 w' r := by
          intro dv y1 y2 g1 g2 g3 e1 e2 h
          have S1 : SK (aS w 163 i3 y1) := SK_aS hS
          have ov2 : ∀ q, ovR (aS (aS w 163 i3 y1) 163 i1 y2) q = if q = b then ovR w1 b + dv.toInt else if q = xr then ovR w1 xr - dv.toInt else ovR w1 q := by
            intro q
            rw [ovR_s S1 h1 hb, ovR_s hS h3 a1, e1, e2, eo]
          have f2 : FM [] [162, 163] w (aS (aS w 163 i3 y1) 163 i1 y2) := FM_trans (FM_aS hS (by decide)) (FM_aS S1 (by decide))
          have f3 : FM [] [163] w (aS (aS w 163 i3 y1) 163 i1 y2) := FM_trans (FM_aS hS (by decide)) (FM_aS S1 (by decide))
          have ef : fwR (aS (aS w 163 i3 y1) 163 i1 y2) = fwR w1 := (fw_fm f3 (by decide)).trans (fw_fm f1 (by decide))
          have e9 : rsR (aS (aS w 163 i3 y1) 163 i1 y2) = rsR w1 := (rs_e (mo_fm f3 (by decide)) (lo_fm f3 (by decide)) (fw_fm f3 (by decide))).trans er
          obtain ⟨⟨hf1, hf2, hf3, hf4⟩, hF, hg, hO⟩ := hE
          refine ih114 w1 w _ ρ T b j 0 i1 dv i3 i1 hW f2 hb hlb h1 h1 (Nat.zero_le _) hn hrt g1 (by omega) ⟨FM_trans hf1 (FM_trans (FM_mono f1 (by intro x hx; cases hx) (by decide)) (FM_mono f2 (by intro x hx; cases hx) (by decide))), ?_, ?_, ?_⟩ ?_ (fun a ha => ?_) (fun a ha => ?_) h
          · intro a b ha hb hab; rw [ef]; exact hf2 a b ha hb hab
          · intro a b ha hb; rw [ef]; exact hf3 a b ha hb
          · intro a ha; rw [ef]; exact hf4 a ha
          · rw [e9]
            exact PSJ_0 hF (fun i hi => by have := hle i hi; omega)
          · rw [hg a ha, ov2, ← hxr]
            by_cases q1 : a = b
            · rw [if_pos q1, if_pos q1, if_neg (fun z => hne (z.symm.trans q1)), q1]; omega
            · rw [if_neg q1, if_neg q1]
              by_cases q2 : a = xr
              · rw [if_pos q2, if_pos q2, q2]; omega
              · rw [if_neg q2, if_neg q2]; omega
          · rw [ov2]
            have q := hO a ha
            by_cases q1 : a = b
            · rw [if_pos q1]
              rw [q1] at q ⊢
              refine ⟨fun z => ?_, fun z => ?_⟩
              · have := q.1 z; omega
              · have := q.2 z; omega
            · rw [if_neg q1]
              by_cases q2 : a = xr
              · rw [if_pos q2]
                rw [q2] at q ⊢
                refine ⟨fun z => ?_, fun z => ?_⟩
                · have := q.1 z; omega
                · have := q.2 z; omega
              · rw [if_neg q2]; exact q
        obtain ⟨_, h⟩ := h
        by_cases c2 : i2 ≤ aG w 163 i3
        · rw [if_pos c2] at h
          rw [Int32.le_iff_toInt_le, ev] at c2
          obtain ⟨_, _, h⟩ := h
          have h := h _ rfl
          obtain ⟨_, _, h⟩ := h
          have h := h _ rfl
          have S1 : SK (aS w 163 i3 (aG w 163 i3 - i2)) := SK_aS hS
          have v2 : (aG (aS w 163 i3 (aG w 163 i3 - i2)) 163 i1).toInt = ovR w1 b := by
            rw [aG_n h1]
            show ovR _ b = _
            rw [ovR_s hS h3 a1, if_neg (fun e => hne e.symm), eo]
          exact go i2 _ _ hp (Int.le_refl _) c2 (zi_sub ev rfl (by omega) (by omega)) (zi_add v2 rfl (by omega) (by omega)) h
        · rw [if_neg c2] at h
          rw [Int32.le_iff_toInt_le, ev] at c2
          obtain ⟨_, _, _, h⟩ := h
          have h := h _ rfl
          obtain ⟨_, _, h⟩ := h
          have h := h _ rfl
          have S1 : SK (aS w 163 i3 (aG w 163 i3 - aG w 163 i3)) := SK_aS hS
          have v2 : (aG (aS w 163 i3 (aG w 163 i3 - aG w 163 i3)) 163 i1).toInt = ovR w1 b := by
            rw [aG_n h1]
            show ovR _ b = _
            rw [ovR_s hS h3 a1, if_neg (fun e => hne e.symm), eo]
          exact go (aG w 163 i3) _ _ (by rw [ev]; exact hov) (by rw [ev]; omega) (by rw [ev]; exact Int.le_refl _) (by rw [zi_sub ev ev (by omega) (by omega), ev]) (by rw [zi_add v2 ev (by omega) (by omega), ev]) h
      · rw [if_neg c] at h
        obtain ⟨_, h⟩ := h
        have hrt : rtR w (itr (prR w) b j) = false := decide_eq_false (fun e => c (Int32.toInt_inj.mp (by rw [e, h3])))
        obtain ⟨b1, b2, b3, b4⟩ := WI_nr hW a1 a2 hrt
        obtain ⟨z7, hz7, h⟩ := use_z hS h (fun _ _ y => F280 hS hRG b1 h3 b2 a1 y)
        rw [er] at hz7
        have cont : ∀ nv : Int32, 0 < nv.toInt → nv.toInt ≤ i2.toInt → nv.toInt ≤ rsR w1 (prR w (itr (prR w) b j)) (itr (prR w) b j) → PS X k 278 19 [.ref 147, .int i1, .int nv, .int (aG w 164 i3), u4] [] w r w' → EVR w0 w' r := by
          intro nv g1 g2 g3 h
          rw [e4] at h
          refine ih19 w1 w ρ T b (j + 1) i1 nv _ u4 hE f1 hW hb hlb hob h1 (by rw [b1]; rfl) (fun i hi => ?_) g1 (by omega) (fun i hi => ?_) h
          · by_cases e : i = j
            · rw [e]; exact hrt
            · exact hn i (by omega)
          · by_cases e : i = j
            · rw [e]; exact g3
            · have := hle i (by omega); omega
        by_cases c2 : i2 ≤ z7
        · rw [if_pos c2] at h
          rw [Int32.le_iff_toInt_le, hz7] at c2
          exact cont i2 hp (Int.le_refl _) c2 h.2
        · rw [if_neg c2] at h
          rw [Int32.le_iff_toInt_le, hz7] at c2
          obtain ⟨_, h⟩ := h
          rw [e4] at h
          obtain ⟨z8, hz8, h⟩ := use_z hS h (fun _ _ y => F280 hS hRG b1 h3 b2 a1 y)
          rw [er] at hz8
          refine cont z8 (by rw [hz8]; exact b4) (by rw [hz8]; omega) (by rw [hz8]; exact Int.le_refl _) h.2
    · have hSj : SK wj := fj.2.2.2
      have h := U278_114 hSj h
      have efm : fmR wj = fmR w := fm_fm fj (by decide)
      obtain ⟨_, h⟩ := h
      have e4 : aG wj 164 i4 = fmR w (itr (prR w) b j) := by rw [aG_n h4, ← efm]; rfl
      rw [e4] at h
      by_cases c : fmR w (itr (prR w) b j) = i4
      · rw [if_pos c] at h
        have hrt : rtR w (itr (prR w) b j) = true := decide_eq_true (by rw [c, h4])
        have ejJ : j = J := by
          by_cases e : j < J
          · rw [hn j e] at hrt; exact Bool.noConfusion hrt
          · omega
        rw [ejJ] at hps
        have hEj : EV w0 wj := ⟨hfl, hps.1, fun a ha => by rw [hps.2.2 a ha]; exact hg a ha, hO⟩
        have hRG := EV_RG h0 hEj.1 hEj.2.1 (fun a ha => OV_b h0 hEj.2.2.2 ha)
        obtain ⟨q1, w5, y, h5⟩ := h
        obtain ⟨f5, alt⟩ := F279 hSj hRG y
        rcases alt with ⟨a1, a2⟩ | ⟨z, b', a1, a2, a3⟩
        · exact ih5 wj w5 _ _ _ _ hEj f5 (Or.inl ⟨rfl, a2⟩) (h5 _ a1 f5.2.2.2)
        · exact ih5 wj w5 _ _ _ _ hEj f5 (Or.inr ⟨b', a2, a3⟩) (h5 _ a1 f5.2.2.2)
      · rw [if_neg c] at h
        have hrt : rtR w (itr (prR w) b j) = false := decide_eq_false (fun e => c (Int32.toInt_inj.mp (by rw [e, h4])))
        have hjJ : j < J := by
          by_cases e : j = J
          · rw [e, hJ] at hrt; exact Bool.noConfusion hrt
          · omega
        have hP := WI_PTH hW
        obtain ⟨a1, a2, _⟩ := itr_in hP hb hlb j (fun i hi => hn i (by omega))
        obtain ⟨b1, b2, b3, b4⟩ := WI_nr hW a1 a2 hrt
        have hRG := EV_RG h0 hfl hps.1 (fun a ha => OV_b h0 hO ha)
        obtain ⟨_, q4, w5, y, h5⟩ := h
        obtain ⟨p1', p2', p3', p4', p5', p6'⟩ := F281 (d := i2.toInt) hSj hRG hfl.2.1 b1 h4 b2 a1 b3 rfl (by omega) hp2 y
        have S5 : SK w5 := p2'.2.2.2
        have h := (h5 p1' S5).2
        have e5 : aG w5 164 i4 = fmR w (itr (prR w) b j) := by rw [aG_n h4, FM_a p2' (by decide), ← efm]; rfl
        rw [e5] at h
        have eo5 : ovR w5 = ovR wj := ov_fm p2' (by decide)
        refine ih114 w1 w w5 ρ T b J (j + 1) i1 i2 i3 _ hW (FM_trans fj (FM_mono p2' (by intro x hx; cases hx) (by decide))) hb hlb h1 (by rw [b1]; rfl) (by omega) hn hJ hp hp2 ⟨FM_trans hfl.1 (FM_mono p2' (by intro x hx; cases hx) (by decide)), p4', p5', fun i hi => by rw [p6' i i hi hi rfl]; exact hfl.2.2.2 i hi⟩ (PSJ_s hP hb hlb hn (by omega) hjJ hps p3') (fun a ha => by rw [eo5]; exact hg a ha) (by rw [eo5]; exact hO) h
theorem F278 (hS : SK w) (h0 : EV0 w) (hfl : ∀ a b, a < 10 → b < 10 → fwR w a b = 0) (hc0 : ∀ a b, a < 10 → b < 10 → a ≠ b → 0 ≤ cR w a b) (h : PS X k 278 0 [.ref 147, pm_dead, pm_dead, pm_dead, pm_dead] [] w r w') : EVR w w' r := by
  have ers : ∀ a b, a < 10 → b < 10 → rsR w a b = cR w a b := by
    intro a b ha hb
    unfold rsR cR
    rw [hfl a b ha hb, hfl b a hb ha]
    omega
  have hE : EV w w := by
    refine ⟨⟨FM_refl hS, fun a b ha hb _ => Or.inl (hfl a b ha hb), fun a b ha hb => by rw [hfl a b ha hb]; omega, fun a ha => hfl a a ha ha⟩, ⟨fun a b ha hb hab => by rw [ers a b ha hb]; exact hc0 a b ha hb hab, fun a b ha hb => by rw [ers a b ha hb, ers b a hb ha]⟩, fun a ha => ?_, fun a ha => ⟨fun z => ⟨z, Int.le_refl _⟩, fun z => ⟨Int.le_refl _, z⟩⟩⟩
    have e : gone (cR w) (rsR w) 10 a = 0 := by
      unfold gone
      refine suI_z 10 (fun b hb => ?_)
      rw [ers a b ha hb]
      omega
    rw [e]
    omega
  have hRG := EV_RG h0 hE.1 hE.2.1 (fun a ha => OV_b h0 hE.2.2.2 ha)
  cases k with
  | zero => exact (PS_0 h).elim
  | succ k =>
    obtain ⟨q1, w5, y, h5⟩ := U278_0 hS h
    obtain ⟨f5, alt⟩ := F279 hS hRG y
    rcases alt with ⟨a1, a2⟩ | ⟨z, b', a1, a2, a3⟩
    · exact (F278_l h0 k).1 w w5 _ _ _ _ hE f5 (Or.inl ⟨rfl, a2⟩) (h5 _ a1 f5.2.2.2)
    · exact (F278_l h0 k).1 w w5 _ _ _ _ hE f5 (Or.inr ⟨b', a2, a3⟩) (h5 _ a1 f5.2.2.2)
end IJE
end
section
/-! ===== the class: a village's sets of wants and their worth, the rooms looked at ===== -/
section IKL
variable {X : pm_X} {k k2 : Nat} {w0 w w1 w2 w3 w4 wj w' : pm_W} {r r2 q0 q1 q2 : Option Value} {p1 p2 p3 p4 i1 i2 i3 i4 i5 i6 z z1 z2 x y : Int32} {i v j m u P t s b Q B I J K n a T p W : Nat} {f g : Nat → Int} {wv : Nat → Int32}
theorem sh_pow (h : y.toInt = t) (ht : t ≤ 7) : ((1 : Int32) <<< (y &&& 31)).toInt = ((2 ^ t : Nat) : Int) := by
  have e := i32_of h (by omega)
  have q : (List.range 8).all (fun t => decide (((1 : Int32) <<< (Int32.ofNat t &&& 31)).toInt = ((2 ^ t : Nat) : Int))) = true := by decide +kernel
  rw [e]
  exact of_decide_eq_true (List.all_eq_true.mp q t (List.mem_range.mpr (by omega)))
theorem or_pow (h : y.toInt = t) (ht : t ≤ 6) (hx : x.toInt = s) (hs : s < 2 ^ t) : (x ||| ((1 : Int32) <<< (y &&& 31))).toInt = ((2 ^ t + s : Nat) : Int) := by
  have h7 : s < 128 := Nat.lt_of_lt_of_le hs (Nat.le_trans (Nat.pow_le_pow_right (by decide) ht) (by decide))
  have e := i32_of h (by omega)
  have e2 := i32_of hx (by omega)
  have q : (List.range 7).all (fun t => (List.range 128).all (fun s => decide (s < 2 ^ t → (Int32.ofNat s ||| ((1 : Int32) <<< (Int32.ofNat t &&& 31))).toInt = ((2 ^ t + s : Nat) : Int)))) = true := by decide +kernel
  have q1 := List.all_eq_true.mp q t (List.mem_range.mpr (by omega))
  have q2 := of_decide_eq_true (List.all_eq_true.mp q1 s (List.mem_range.mpr h7))
  rw [e, e2]
  exact q2 hs
/-- the worth of a set of wants -/
def vlS (wv : Nat → Int32) (W s : Nat) : Int := suI (fun κ => if s.testBit κ = true then (wv κ).toInt else 0) W
theorem vlS_lo (hs : s < 2 ^ t) : vlS wv (t + 1) s = vlS wv t s := by
  show suI _ t + (if s.testBit t = true then (wv t).toInt else 0) = suI _ t
  rw [Nat.testBit_lt_two_pow hs, if_neg Bool.false_ne_true]
  omega
theorem vlS_hi (hs : s < 2 ^ t) : vlS wv (t + 1) (2 ^ t + s) = vlS wv t s + (wv t).toInt := by
  show suI _ t + (if (2 ^ t + s).testBit t = true then (wv t).toInt else 0) = suI _ t + _
  rw [Nat.testBit_two_pow_add_eq, Nat.testBit_lt_two_pow hs, if_pos (show (!false) = true from rfl)]
  congr 1
  refine suI_cg t (fun κ hκ => ?_)
  rw [Nat.testBit_two_pow_add_gt hκ]
theorem vlS_b (hw : ∀ κ, κ < W → 0 ≤ (wv κ).toInt ∧ (wv κ).toInt ≤ 99) : ∀ t, t ≤ W → 0 ≤ vlS wv t s ∧ vlS wv t s ≤ 99 * t := by
  intro t
  induction t with
  | zero => intro _; exact ⟨Int.le_refl _, Int.le_refl _⟩
  | succ t ih =>
    intro ht
    have q := ih (by omega)
    have q2 := hw t (by omega)
    unfold vlS at q ⊢
    show 0 ≤ suI _ t + (if s.testBit t = true then (wv t).toInt else 0) ∧ suI _ t + (if s.testBit t = true then (wv t).toInt else 0) ≤ 99 * ((t + 1 : Nat) : Int)
    split <;> omega
def vaW (w : pm_W) (s : Nat) : Int := ((gA w 77).getD s 0).toInt
theorem l77 (hS : SK w) : (gA w 77).length = 128 := SK_len hS (a := 77) (n := 128) (by decide +kernel) (by decide)
theorem vaW_s (hS : SK w) (hx : x.toInt = a) (ha : a < 128) (q : Nat) : vaW (aS w 77 x y) q = if q = a then y.toInt else vaW w q := by
  unfold vaW
  rw [gA_aS (SK_isA hS (by decide +kernel)), i_nat hx, getD_set (by rw [l77 hS]; exact ha)]
  by_cases e : q = a
  · rw [if_pos e, if_pos e]
  · rw [if_neg e, if_neg e]
theorem F160_l (hv : gR w0 v 6 = v + 4) (hv4 : v + 4 < 60) (hW : (gI w0 v 2).toInt = W) (hW7 : W ≤ 7) (hwv : ∀ κ, κ < W → (gA w0 (v + 4)).getD (4 * κ + 3) 0 = wv κ) (hwb : ∀ κ, κ < W → 0 ≤ (wv κ).toInt ∧ (wv κ).toInt ≤ 99) : ∀ k : Nat,
    (∀ (w : pm_W) (t : Nat) (i2 : Int32) (u3 : Value), FM [] [77] w0 w → i2.toInt = t → t ≤ W → (∀ s, s < 2 ^ t → vaW w s = vlS wv t s) → PS X k 160 24 [.ref 68, .ref v, .int i2, u3] [] w r w' → r = none ∧ FM [] [77] w0 w' ∧ ∀ s, s < 2 ^ W → vaW w' s = vlS wv W s) ∧
    (∀ (w : pm_W) (t j : Nat) (i2 i3 : Int32), FM [] [77] w0 w → i2.toInt = t → t < W → i3.toInt = j → j ≤ 2 ^ t → (∀ s, s < 2 ^ t → vaW w s = vlS wv t s) → (∀ s, s < j → vaW w (2 ^ t + s) = vlS wv t s + (wv t).toInt) → PS X k 160 34 [.ref 68, .ref v, .int i2, .int i3] [] w r w' → r = none ∧ FM [] [77] w0 w' ∧ ∀ s, s < 2 ^ W → vaW w' s = vlS wv W s) := by
  intro k
  induction k with
  | zero => exact ⟨fun _ _ _ _ _ _ _ _ h => (PS_0 h).elim, fun _ _ _ _ _ _ _ _ _ _ _ _ h => (PS_0 h).elim⟩
  | succ k ih =>
    obtain ⟨ih24, ih34⟩ := ih
    refine ⟨fun w t i2 u3 fm h2 ht hs h => ?_, fun w t j i2 i3 fm h2 ht h3 hj hs hs2 h => ?_⟩
    · have hS : SK w := fm.2.2.2
      have h := U160_24 hS h
      rw [FM_i fm (by simp)] at h
      by_cases c : gI w0 v 2 ≤ i2
      · rw [if_pos c] at h
        rw [Int32.le_iff_toInt_le, hW, h2] at c
        have e : t = W := by omega
        rw [e] at hs
        rw [h.2]
        exact ⟨h.1, fm, hs⟩
      · rw [if_neg c] at h
        rw [Int32.le_iff_toInt_le, hW, h2] at c
        exact ih34 w t 0 i2 0 fm h2 (by omega) z32 (Nat.zero_le _) hs (fun s hs => absurd hs (Nat.not_lt_zero s)) h
    · have hS : SK w := fm.2.2.2
      have h := U160_34 hS h
      have ep := sh_pow h2 (show t ≤ 7 by omega)
      have p128 : 2 ^ t ≤ 64 := Nat.le_trans (Nat.pow_le_pow_right (by decide) (show t ≤ 6 by omega)) (by decide)
      by_cases c : (1 : Int32) <<< (i2 &&& 31) ≤ i3
      · rw [if_pos c] at h
        rw [Int32.le_iff_toInt_le, ep, h3] at c
        have e : j = 2 ^ t := by omega
        refine ih24 w (t + 1) _ _ fm (by rw [zi_inc (n := 40) (by omega) (by omega), h2]; rfl) (by omega) (fun s hs3 => ?_) h
        by_cases e2 : s < 2 ^ t
        · rw [vlS_lo e2]; exact hs s e2
        · rw [Nat.pow_succ] at hs3
          obtain ⟨s', hs'⟩ : ∃ s', s = 2 ^ t + s' := ⟨s - 2 ^ t, by omega⟩
          rw [hs', vlS_hi (by omega)]
          exact hs2 s' (by omega)
      · rw [if_neg c] at h
        rw [Int32.le_iff_toInt_le, ep, h3] at c
        obtain ⟨_, h⟩ := h
        have hv' : gR w v 6 = v + 4 := by rw [FM_r fm (by simp)]; exact hv
        have h := use_p hS h (fun _ _ y => F65 hS hv' y)
        obtain ⟨_, h⟩ := h
        have h := h _ rfl
        have e65 : aG w (v + 4) (i2 * 4 + 3) = wv t := by
          rw [aG_n (m := 4 * t + 3) (by rw [zi_add (zi_mul h2 four32 (by omega) (by omega)) three32 (by omega) (by omega)]; omega), FM_a fm (by simp <;> omega)]
          exact hwv t ht
        rw [e65] at h
        have e77 : (aG w 77 i3).toInt = vlS wv t j := by
          rw [aG_n h3]
          exact hs j (by omega)
        obtain ⟨b1, b2⟩ := vlS_b (s := j) hwb t (by omega)
        obtain ⟨b3, b4⟩ := hwb t ht
        have eo := or_pow h2 (show t ≤ 6 by omega) h3 (show j < 2 ^ t by omega)
        have vs := vaW_s hS eo (by omega) (y := aG w 77 i3 + wv t)
        have esum : (aG w 77 i3 + wv t).toInt = vlS wv t j + (wv t).toInt := zi_add e77 rfl (by omega) (by omega)
        refine ih34 _ t (j + 1) i2 _ (FM_trans fm (FM_aS hS (by decide))) h2 ht (by rw [zi_inc (n := 200) (by omega) (by omega), h3]; rfl) (by omega) (fun s hs3 => ?_) (fun s hs3 => ?_) h
        · rw [vs, if_neg (by omega)]; exact hs s hs3
        · rw [vs]
          by_cases e2 : s = j
          · rw [if_pos (by omega), esum, e2]
          · rw [if_neg (by omega)]; exact hs2 s (by omega)
theorem F160 (hS : SK w) (hv : gR w v 6 = v + 4) (hv4 : v + 4 < 60) (hW : (gI w v 2).toInt = W) (hW7 : W ≤ 7) (hwv : ∀ κ, κ < W → (gA w (v + 4)).getD (4 * κ + 3) 0 = wv κ) (hwb : ∀ κ, κ < W → 0 ≤ (wv κ).toInt ∧ (wv κ).toInt ≤ 99) (h : PS X k 160 0 [.ref 68, .ref v, pm_dead, pm_dead] [] w r w') : r = none ∧ FM [(68, 0), (68, 7)] [77] w w' ∧ gR w' 68 0 = v ∧ (gI w' 68 7).toInt = ((2 ^ W : Nat) : Int) ∧ ∀ s, s < 2 ^ W → vaW w' s = vlS wv W s := by
  cases k with
  | zero => exact (PS_0 h).elim
  | succ k =>
    have h := U160_0 hS h _ rfl _ rfl
    obtain ⟨_, h⟩ := h
    have h := h _ rfl
    have f1 : FM [(68, 0), (68, 7)] [77] w (sR w 68 0 v) := FM_sR hS (by decide +kernel) (by decide)
    have S1 : SK (sR w 68 0 v) := f1.2.2.2
    have eW : gI (sR w 68 0 v) v 2 = gI w v 2 := FM_i f1 (by simp <;> omega)
    rw [eW] at h
    have f2 : FM [(68, 0), (68, 7)] [77] (sR w 68 0 v) (sI (sR w 68 0 v) 68 7 (1 <<< (gI w v 2 &&& 31))) := FM_sI S1 (by decide)
    have S2 := f2.2.2.2
    have f3 : FM [(68, 0), (68, 7)] [77] (sI (sR w 68 0 v) 68 7 (1 <<< (gI w v 2 &&& 31))) (aS (sI (sR w 68 0 v) 68 7 (1 <<< (gI w v 2 &&& 31))) 77 0 0) := FM_aS S2 (by decide)
    have f4 := FM_trans f1 (FM_trans f2 f3)
    have hv' : gR (aS (sI (sR w 68 0 v) 68 7 (1 <<< (gI w v 2 &&& 31))) 77 0 0) v 6 = v + 4 := by rw [FM_r f4 (by simp <;> omega)]; exact hv
    obtain ⟨a1, a2, a3⟩ := (F160_l (w0 := aS (sI (sR w 68 0 v) 68 7 (1 <<< (gI w v 2 &&& 31))) 77 0 0) hv' hv4 (by rw [FM_i f4 (by simp <;> omega)]; exact hW) hW7 (fun κ hκ => by rw [FM_a f4 (by simp <;> omega)]; exact hwv κ hκ) hwb k).1 _ 0 0 _ (FM_refl f3.2.2.2) z32 (Nat.zero_le _) (fun s hs => by
      have e : s = 0 := by have : (2 : Nat) ^ 0 = 1 := rfl; omega
      rw [e, vaW_s S2 z32 (by decide), if_pos rfl, z32]
      rfl) h
    refine ⟨a1, FM_trans f4 (FM_mono a2 (by intro x hx; cases hx) (by decide)), ?_, ?_, a3⟩
    · rw [FM_r a2 (by simp), gR_aS, gR_sI, gR_sR hS (by decide +kernel)]
    · rw [FM_i a2 (by simp), gI_aS, gI_sI (SK_isF S1 (by decide +kernel))]
      exact sh_pow hW hW7
theorem l74 (hS : SK w) : (gA w 74).length = 81 := SK_len hS (a := 74) (n := 81) (by decide +kernel) (by decide)
theorem rmW_s (hS : SK w) (ha : a < 9) (hb : b < 9) (hx : x.toInt = (9 * a + b : Nat)) (i j : Nat) (hi : i < 9) (hj : j < 9) : rmW (aS w 74 x y) i j = if i = a ∧ j = b then y.toInt else rmW w i j := by
  unfold rmW
  rw [gA_aS (SK_isA hS (by decide +kernel)), i_nat hx, getD_set (by rw [l74 hS]; omega)]
  by_cases e : i = a ∧ j = b
  · rw [if_pos (by omega), if_pos e]
  · rw [if_neg (by omega), if_neg e]
theorem F159_l (hv : gR w0 33 0 = v) (hv2 : gR w0 68 0 = v) (okv : okV v = true) (hvv : v + 4 < 33) (hP : (gI w0 v 0).toInt = P) (hP9 : P ≤ 9) (hS0 : SK w0) : ∀ k : Nat,
    (∀ (w : pm_W) (A : Nat) (i2 : Int32) (u3 : Value), FM [] [74] w0 w → i2.toInt = A → A ≤ P → (∀ i j, i < A → j < P → rmW w i j = (rmI (vcl w0 v) (dA w0 33) i j).toInt) → PS X k 159 10 [.ref 68, .ref 33, .int i2, u3] [] w r w' → r = none ∧ FM [] [74] w0 w' ∧ ∀ i j, i < P → j < P → rmW w' i j = (rmI (vcl w0 v) (dA w0 33) i j).toInt) ∧
    (∀ (w : pm_W) (A B : Nat) (i2 i3 : Int32), FM [] [74] w0 w → i2.toInt = A → A < P → i3.toInt = B → B ≤ P → (∀ i j, (i < A ∧ j < P) ∨ (i = A ∧ j < B) → rmW w i j = (rmI (vcl w0 v) (dA w0 33) i j).toInt) → PS X k 159 23 [.ref 68, .ref 33, .int i2, .int i3] [] w r w' → r = none ∧ FM [] [74] w0 w' ∧ ∀ i j, i < P → j < P → rmW w' i j = (rmI (vcl w0 v) (dA w0 33) i j).toInt) := by
  intro k
  induction k with
  | zero => exact ⟨fun _ _ _ _ _ _ _ _ h => (PS_0 h).elim, fun _ _ _ _ _ _ _ _ _ _ _ h => (PS_0 h).elim⟩
  | succ k ih =>
    obtain ⟨ih10, ih23⟩ := ih
    refine ⟨fun w A i2 u3 fm h2 hA hf h => ?_, fun w A B i2 i3 fm h2 hA h3 hB hf h => ?_⟩
    · have hS : SK w := fm.2.2.2
      have h := U159_10 hS h
      rw [FM_r fm (by simp), FM_i fm (by simp), hv2] at h
      by_cases c : gI w0 v 0 ≤ i2
      · rw [if_pos c] at h
        rw [Int32.le_iff_toInt_le, hP, h2] at c
        rw [h.2]
        exact ⟨h.1, fm, fun i j hi hj => hf i j (by omega) hj⟩
      · rw [if_neg c] at h
        rw [Int32.le_iff_toInt_le, hP, h2] at c
        exact ih23 w A 0 i2 0 fm h2 (by omega) z32 (Nat.zero_le _) (fun i j q => hf i j (by omega) (by omega)) h
    · have hS : SK w := fm.2.2.2
      have h := U159_23 hS h
      rw [FM_r fm (by simp), FM_i fm (by simp), hv2] at h
      by_cases c : gI w0 v 0 ≤ i3
      · rw [if_pos c] at h
        rw [Int32.le_iff_toInt_le, hP, h3] at c
        exact ih10 w (A + 1) _ _ fm (by rw [zi_inc (n := 40) (by omega) (by omega), h2]; rfl) (by omega) (fun i j hi hj => hf i j (by omega)) h
      · rw [if_neg c] at h
        rw [Int32.le_iff_toInt_le, hP, h3] at c
        obtain ⟨c9, hc9, h⟩ := use_z hS h (fun _ _ t => F52n hS h2 h3 (by omega) (by omega) t)
        have hv' : gR w 33 0 = v := by rw [FM_r fm (by simp)]; exact hv
        have h := use_p hS h (fun _ _ y => F77n hS (by decide +kernel) okv hv' h2 h3 (by omega) (by omega) y)
        obtain ⟨_, h⟩ := h
        have h := h _ rfl
        have ev : vcl w v = vcl w0 v := by
          funext q
          exact vcl_FMv hS0 fm okv (by simp) (by simp) (by simp) (by simp <;> omega) (by simp <;> omega) (by simp <;> omega) (by simp <;> omega) q
        have ed : dA w 33 = dA w0 33 := by funext q; unfold dA; rw [FM_a fm (by simp)]
        rw [ev, ed] at h
        refine ih23 _ A (B + 1) i2 _ (FM_trans fm (FM_aS hS (by decide))) h2 hA (by rw [zi_inc (n := 40) (by omega) (by omega), h3]; rfl) (by omega) (fun i j q => ?_) h
        rw [rmW_s hS (show A < 9 by omega) (show B < 9 by omega) hc9 i j (by omega) (by omega)]
        by_cases e : i = A ∧ j = B
        · rw [if_pos e, e.1, e.2]
        · rw [if_neg e]; exact hf i j (by omega)
theorem F159 (hS : SK w) (hv : gR w 33 0 = v) (okv : okV v = true) (hvv : v + 4 < 33) (hv6 : gR w v 6 = v + 4) (hP : (gI w v 0).toInt = P) (hP9 : P ≤ 9) (hW : (gI w v 2).toInt = W) (hW7 : W ≤ 7) (hwv : ∀ κ, κ < W → (gA w (v + 4)).getD (4 * κ + 3) 0 = wv κ) (hwb : ∀ κ, κ < W → 0 ≤ (wv κ).toInt ∧ (wv κ).toInt ≤ 99) (h : PS X k 159 0 [.ref 68, .ref 33, pm_dead, pm_dead] [] w r w') : r = none ∧ FM [(68, 0), (68, 7)] [74, 77] w w' ∧ gR w' 68 0 = v ∧ (gI w' 68 7).toInt = ((2 ^ W : Nat) : Int) ∧ (∀ s, s < 2 ^ W → vaW w' s = vlS wv W s) ∧ ∀ i j, i < P → j < P → rmW w' i j = (rmI (vcl w v) (dA w 33) i j).toInt := by
  cases k with
  | zero => exact (PS_0 h).elim
  | succ k =>
    obtain ⟨q1, w2, y, h⟩ := U159_0 hS h
    rw [hv] at y
    obtain ⟨a1, f1, a3, a4, a5⟩ := F160 hS hv6 (by omega) hW hW7 hwv hwb y
    have S2 : SK w2 := f1.2.2.2
    have h := h a1 S2
    have hv' : gR w2 33 0 = v := by rw [FM_r f1 (by simp)]; exact hv
    obtain ⟨b1, b2, b3⟩ := (F159_l hv' a3 okv hvv (by rw [FM_i f1 (by simp <;> omega)]; exact hP) hP9 S2 k).1 w2 0 0 _ (FM_refl S2) z32 (Nat.zero_le _) (fun i j hi => absurd hi (Nat.not_lt_zero i)) h
    refine ⟨b1, FM_trans (FM_mono f1 (by intro x hx; exact hx) (by decide)) (FM_mono b2 (by intro x hx; cases hx) (by decide)), by rw [FM_r b2 (by simp)]; exact a3, by rw [FM_i b2 (by simp)]; exact a4, fun s hs => ?_, fun i j hi hj => ?_⟩
    · rw [← a5 s hs]
      unfold vaW
      rw [FM_a b2 (by simp)]
    · rw [b3 i j hi hj]
      have ev : vcl w2 v = vcl w v := by
        funext q
        exact vcl_FMv hS f1 okv (by simp <;> omega) (by simp <;> omega) (by simp <;> omega) (by simp <;> omega) (by simp <;> omega) (by simp <;> omega) (by simp <;> omega) q
      have ed : dA w2 33 = dA w 33 := by funext q; unfold dA; rw [FM_a f1 (by simp)]
      rw [ev, ed]
end IKL
end
section
/-! ===== the reference: what goes through from one to another ===== -/
section ILR
variable {X : pm_X} {k k2 : Nat} {w0 w w1 w2 w3 w4 wj w' : pm_W} {r r2 q0 q1 q2 : Option Value} {p1 p2 p3 p4 i1 i2 i3 i4 i5 i6 z z1 z2 x y : Int32} {i v j m u P t s b Q A B I J K n a T p W : Nat} {c c' R : Nat → Nat → Int} {S : Nat → Bool} {o : Nat → Int} {e f g : Int}
theorem cutC_cg (h : ∀ a b, a < n → b < n → c a b = c' a b) : cutC c S n = cutC c' S n := by
  unfold cutC
  refine suI_cg n (fun a ha => ?_)
  congr 1
  exact suI_cg n (fun b hb => by rw [h a b ha hb])
/-! laying the rooms -/
theorem moR_s (hS : SK w) (ha : a < 10) (hb : b < 10) (hx : x.toInt = (10 * a + b : Nat)) (i j : Nat) (hi : i < 10) (hj : j < 10) : moR (aS w 161 x y) i j = if i = a ∧ j = b then y.toInt else moR w i j := by
  unfold moR
  rw [gA_aS (SK_isA hS (by decide +kernel)), i_nat hx, getD_set (by rw [l161 hS]; omega)]
  by_cases e : i = a ∧ j = b
  · rw [if_pos (by omega), if_pos e]
  · rw [if_neg (by omega), if_neg e]
def Z4 (w : pm_W) : Prop := (∀ i, i < 100 → (gA w 160).getD i 0 = 0 ∧ (gA w 161).getD i 0 = 0 ∧ (gA w 162).getD i 0 = 0) ∧ ∀ i, i < 10 → (gA w 163).getD i 0 = 0
theorem F277 (hS : SK w) (h : PS X k 277 0 [.ref 147, pm_dead] [] w r w') : r = none ∧ FM [] [160, 161, 162, 163] w w' ∧ Z4 w' := by
  have e100 : (100 : Int32).toInt = 100 := by decide +kernel
  have lp2 : ∀ (k A : Nat) (w1 : pm_W) (i1 : Int32), FM [] [160, 161, 162, 163] w w1 → i1.toInt = A → A ≤ 10 → (∀ i, i < 100 → (gA w1 160).getD i 0 = 0 ∧ (gA w1 161).getD i 0 = 0 ∧ (gA w1 162).getD i 0 = 0) → (∀ i, i < A → (gA w1 163).getD i 0 = 0) → PS X k 277 37 [.ref 147, .int i1] [] w1 r w' → r = none ∧ FM [] [160, 161, 162, 163] w w' ∧ Z4 w' := by
    intro k
    induction k with
    | zero => intro A w1 i1 _ _ _ _ _ h; exact (PS_0 h).elim
    | succ k ih =>
      intro A w1 i1 fm h1 hA hz ho h
      have S1 : SK w1 := fm.2.2.2
      have h := U277_37 S1 h
      by_cases c : 10 ≤ i1
      · rw [if_pos c] at h
        rw [Int32.le_iff_toInt_le, ten32, h1] at c
        rw [h.2]
        exact ⟨h.1, fm, hz, fun i hi => ho i (by omega)⟩
      · rw [if_neg c] at h
        rw [Int32.le_iff_toInt_le, ten32, h1] at c
        obtain ⟨_, h⟩ := h
        have h := h _ rfl
        refine ih (A + 1) _ _ (FM_trans fm (FM_aS S1 (by decide))) (by rw [zi_inc (n := 200) (by omega) (by omega), h1]; rfl) (by omega) (fun i hi => ?_) (fun i hi => ?_) h
        · rw [gA_aS_ne (by decide), gA_aS_ne (by decide), gA_aS_ne (by decide)]; exact hz i hi
        · rw [gA_aS (SK_isA S1 (by decide +kernel)), i_nat h1, getD_set (by rw [l163 S1]; omega)]
          by_cases e : i = A
          · rw [if_pos e]
          · rw [if_neg e]; exact ho i (by omega)
  have lp : ∀ (k A : Nat) (w1 : pm_W) (i1 : Int32), FM [] [160, 161, 162, 163] w w1 → i1.toInt = A → A ≤ 100 → (∀ i, i < A → (gA w1 160).getD i 0 = 0 ∧ (gA w1 161).getD i 0 = 0 ∧ (gA w1 162).getD i 0 = 0) → PS X k 277 2 [.ref 147, .int i1] [] w1 r w' → r = none ∧ FM [] [160, 161, 162, 163] w w' ∧ Z4 w' := by
    intro k
    induction k with
    | zero => intro A w1 i1 _ _ _ _ h; exact (PS_0 h).elim
    | succ k ih =>
      intro A w1 i1 fm h1 hA hz h
      have S1 : SK w1 := fm.2.2.2
      have h := U277_2 S1 h
      by_cases c : 100 ≤ i1
      · rw [if_pos c] at h
        rw [Int32.le_iff_toInt_le, e100, h1] at c
        exact lp2 k 0 w1 0 fm z32 (Nat.zero_le _) (fun i hi => hz i (by omega)) (fun i hi => absurd hi (Nat.not_lt_zero i)) h
      · rw [if_neg c] at h
        rw [Int32.le_iff_toInt_le, e100, h1] at c
        obtain ⟨_, h⟩ := h
        obtain ⟨_, h⟩ := h _ rfl
        obtain ⟨_, h⟩ := h _ rfl
        have h := h _ rfl
        have S2 : SK (aS w1 160 i1 0) := SK_aS S1
        have S3 : SK (aS (aS w1 160 i1 0) 161 i1 0) := SK_aS S2
        refine ih (A + 1) _ _ (FM_trans fm (FM_trans (FM_aS S1 (by decide)) (FM_trans (FM_aS S2 (by decide)) (FM_aS S3 (by decide))))) (by rw [zi_inc (n := 200) (by omega) (by omega), h1]; rfl) (by omega) (fun i hi => ?_) h
        have a1 : (gA (aS (aS (aS w1 160 i1 0) 161 i1 0) 162 i1 0) 160).getD i 0 = if i = A then 0 else (gA w1 160).getD i 0 := by
          rw [gA_aS_ne (by decide), gA_aS_ne (by decide), gA_aS (SK_isA S1 (by decide +kernel)), i_nat h1, getD_set (by rw [l160 S1]; omega)]
        have a2 : (gA (aS (aS (aS w1 160 i1 0) 161 i1 0) 162 i1 0) 161).getD i 0 = if i = A then 0 else (gA w1 161).getD i 0 := by
          rw [gA_aS_ne (by decide), gA_aS (SK_isA S2 (by decide +kernel)), i_nat h1, getD_set (by rw [l161 S2]; omega), gA_aS_ne (by decide)]
        have a3 : (gA (aS (aS (aS w1 160 i1 0) 161 i1 0) 162 i1 0) 162).getD i 0 = if i = A then 0 else (gA w1 162).getD i 0 := by
          rw [gA_aS (SK_isA S3 (by decide +kernel)), i_nat h1, getD_set (by rw [l162 S3]; omega), gA_aS_ne (by decide), gA_aS_ne (by decide)]
        rw [a1, a2, a3]
        by_cases e : i = A
        · rw [if_pos e, if_pos e, if_pos e]; exact ⟨rfl, rfl, rfl⟩
        · rw [if_neg e, if_neg e, if_neg e]; exact hz i (by omega)
  cases k with
  | zero => exact (PS_0 h).elim
  | succ k => exact lp k 0 w 0 (FM_refl hS) z32 (Nat.zero_le _) (fun i hi => absurd hi (Nat.not_lt_zero i)) (U277_0 hS h)
/-- the rooms of a village u between its P people -/
def rmA (w : pm_W) (u i j : Nat) : Int := (rmI (fun k => al w (610 + 132 * u + k)) (dR w) i j).toInt
theorem rmI_hi {V D : Nat → Int32} (hV : VW V) (hD : ∀ q, 0 ≤ (D q).toInt ∧ (D q).toInt ≤ 99) (hi : i < 9) (hj : j < 9) : 0 ≤ (rmI V D i j).toInt ∧ (rmI V D i j).toInt ≤ 99 := by
  have v := hV (9 * j + i) (by omega)
  have d := hD (9 * i + j)
  have e : (V (3 + (9 * j + i)) - D (9 * i + j)).toInt = (V (3 + (9 * j + i))).toInt - (D (9 * i + j)).toInt := zi_sub rfl rfl (by omega) (by omega)
  unfold rmI
  by_cases c : i = j
  · rw [if_pos c, z32]; omega
  · rw [if_neg c]
    by_cases c2 : 0 < (V (3 + (9 * j + i)) - D (9 * i + j)).toInt
    · rw [if_pos c2, e]; omega
    · rw [if_neg c2, z32]; omega
end ILR
end
section
/-! ===== lent, weak, much ===== -/
section IML
variable {X : pm_X} {k k2 : Nat} {w0 w w1 w2 w3 w4 w5 wj w' : pm_W} {r r2 q0 q1 q2 : Option Value} {p1 p2 p3 p4 p5 i1 i2 i3 i4 i5 i6 i7 i8 z z1 z2 x y f l : Int32} {i v j m u P t s b Q A B I J K n a T p W M N : Nat} {c c' R C : Nat → Nat → Int} {S : Nat → Bool} {e g : Int} {s0 s1 s2 t1 t2 : SN}
/-- the class looks at a loaded state -/
theorem LOOK3 (h3 : RL3 w) (f1 : FM [(33, 0), (33, 1), (33, 2)] [39, 40, 41] w w3) (hu : u < (al w 0).toInt.toNat) (a3 : CSt w3 33 (5 + 5 * u) (Pof (al w) u) s1.1 s1.2.1 s1.2.2.1 s1.2.2.2) (hd : ∀ q, 0 ≤ (s1.1 q).toInt ∧ (s1.1 q).toInt ≤ 99) (y : PS X k 159 0 [.ref 68, .ref 33, pm_dead, pm_dead] [] w3 r w5) : r = none ∧ FM [(68, 0), (68, 7)] [74, 77] w3 w5 ∧ gR w5 68 0 = 5 + 5 * u ∧ (gI w5 (gR w5 68 0) 0).toInt = Pof (al w) u ∧ (gI w5 68 7).toInt = ((2 ^ Wof (al w) u : Nat) : Int) ∧ (∀ s, s < 2 ^ Wof (al w) u → vaW w5 s = vlS (fun κ => wtP (al w) u κ 3) (Wof (al w) u) s) ∧ (∀ i j, i < Pof (al w) u → j < Pof (al w) u → rmW w5 i j = (rmI (Vof (al w) u) s1.1 i j).toInt) ∧ ∀ i j, i < Pof (al w) u → j < Pof (al w) u → 0 ≤ (rmI (Vof (al w) u) s1.1 i j).toInt ∧ (rmI (Vof (al w) u) s1.1 i j).toInt ≤ 99 := by
  have hS := h3.1.1
  have S3 : SK w3 := f1.2.2.2
  obtain ⟨v1, _, v3, v2, v4⟩ := VA_v h3.2 hu
  obtain ⟨x1, x2, x3⟩ := VA_w h3.2 hu
  obtain ⟨u1, g0, gw, _, _, _, _, g6⟩ := VT hS h3.1.2.1 hu
  obtain ⟨g1, g2, g3, g4⟩ := CVL h3 hu f1 a3
  rw [g3] at g1
  obtain ⟨_, _, _, v6⟩ := VR S3 u1
  obtain ⟨b1, b2, b3, b4, b5, b6⟩ := F159 (W := Wof (al w) u) (wv := fun κ => wtP (al w) u κ 3) S3 g3 (okV_n u1) (by omega) (by rw [v6]; omega) g1 v1 (by rw [FM_i f1 (by simp <;> omega), gw]; exact x1) x2 (fun κ hκ => by
    rw [show 5 + 5 * u + 4 = 9 + 5 * u by omega, FM_a f1 (by simp <;> omega), g6 _ (by omega)]
    show al w _ = wtP (al w) u κ 3
    unfold wtP
    rw [show 712 + 132 * u + (4 * κ + 3) = 712 + 132 * u + 4 * κ + 3 by omega]) (fun κ hκ => by
    have q := x3 κ hκ
    exact ⟨q.2.2.2.2.2.2.2.1, q.2.2.2.2.2.2.2.2⟩) y
  have rc : ∀ i j, i < Pof (al w) u → j < Pof (al w) u → rmI (vcl w3 (5 + 5 * u)) (dA w3 33) i j = rmI (Vof (al w) u) s1.1 i j := fun i j hi hj => by
    rw [show dA w3 33 = s1.1 from a3.2.2.1]
    exact rmI_cg (fun q hq => g4 q hq) (by omega) (by omega)
  refine ⟨b1, b2, b3, ?_, b4, b5, fun i j hi hj => by rw [b6 i j hi hj, rc i j hi hj], fun i j hi hj => rmI_hi v2 hd (by omega) (by omega)⟩
  rw [b3, FM_i b2 (by simp <;> omega)]
  exact g1
end IML
end
section
/-! ===== sets of wants: what they ask, whether they can be had (the class) ===== -/
section IPC
variable {X : pm_X} {k k2 : Nat} {w0 w w1 w2 w3 w4 w5 wj w' : pm_W} {r r2 q0 q1 q2 : Option Value} {p1 p2 p3 p4 p5 i1 i2 i3 i4 i5 i6 i7 i8 z z1 z2 x y : Int32} {i v j m u P t s b Q I J K a T p W M N κ : Nat} {R R' C ask : Nat → Nat → Int} {e g d sl : Int} {A B : Nat → Nat} {n o : Nat → Int} {S : Nat → Bool}
def askS (A B : Nat → Nat) (n : Nat → Int) (s W i j : Nat) : Int := suI (fun κ => if s.testBit κ = true ∧ A κ = i ∧ B κ = j then n κ else 0) W
def surS (A B : Nat → Nat) (n : Nat → Int) (s W p : Nat) : Int := suI (fun κ => if s.testBit κ = true then (if B κ = p then n κ else 0) - (if A κ = p then n κ else 0) else 0) W
def lackS (R ask : Nat → Nat → Int) (P : Nat) : Int := suI (fun i => suI (fun j => psI (ask i j - R i j)) P) P
/-- what is left between P people and one more with whom each has sl -/
def capS (R ask : Nat → Nat → Int) (P : Nat) (sl : Int) (i j : Nat) : Int := if i < P ∧ j < P then psI (R i j - ask i j) else if (i < P ∧ j = 9) ∨ (i = 9 ∧ j < P) then sl else 0
theorem ask_b (hn : ∀ κ, κ < W → 1 ≤ n κ ∧ n κ ≤ 99) : ∀ t, t ≤ W → 0 ≤ askS A B n s t i j ∧ askS A B n s t i j ≤ 99 * t := by
  intro t
  induction t with
  | zero => intro _; exact ⟨Int.le_refl _, Int.le_refl _⟩
  | succ t ih =>
    intro ht
    have q := ih (by omega)
    have q2 := hn t (by omega)
    unfold askS at q ⊢
    show 0 ≤ suI _ t + (if s.testBit t = true ∧ A t = i ∧ B t = j then n t else 0) ∧ suI _ t + (if s.testBit t = true ∧ A t = i ∧ B t = j then n t else 0) ≤ 99 * ((t + 1 : Nat) : Int)
    split <;> omega
theorem sur_b (hn : ∀ κ, κ < W → 1 ≤ n κ ∧ n κ ≤ 99) : ∀ t, t ≤ W → -(99 * (t : Int)) ≤ surS A B n s t p ∧ surS A B n s t p ≤ 99 * t := by
  intro t
  induction t with
  | zero => intro _; exact ⟨Int.le_refl _, Int.le_refl _⟩
  | succ t ih =>
    intro ht
    have q := ih (by omega)
    have q2 := hn t (by omega)
    unfold surS at q ⊢
    show -(99 * ((t + 1 : Nat) : Int)) ≤ suI _ t + (if s.testBit t = true then (if B t = p then n t else 0) - (if A t = p then n t else 0) else 0) ∧ suI _ t + (if s.testBit t = true then (if B t = p then n t else 0) - (if A t = p then n t else 0) else 0) ≤ 99 * ((t + 1 : Nat) : Int)
    by_cases c : s.testBit t = true
    · rw [if_pos c]
      split <;> split <;> omega
    · rw [if_neg c]; omega
theorem ask_s : askS A B n s (t + 1) i j = askS A B n s t i j + (if s.testBit t = true ∧ A t = i ∧ B t = j then n t else 0) := rfl
theorem sur_s : surS A B n s (t + 1) p = surS A B n s t p + (if s.testBit t = true then (if B t = p then n t else 0) - (if A t = p then n t else 0) else 0) := rfl
theorem lack_s {a b : Nat} {ask' : Nat → Nat → Int} (ha : a < P) (hb : b < P) (h : ∀ i j, ask' i j = if i = a ∧ j = b then d else ask i j) : lackS R ask' P = lackS R ask P + (psI (d - R a b) - psI (ask a b - R a b)) := by
  unfold lackS
  have e : ∀ i, i < P → suI (fun j => psI (ask' i j - R i j)) P = suI (fun j => psI (ask i j - R i j)) P + (if i = a then psI (d - R a b) - psI (ask a b - R a b) else 0) := by
    intro i hi
    by_cases c : i = a
    · rw [if_pos c, c]
      rw [suI_cg (g := fun j => psI (ask a j - R a j) + (if j = b then psI (d - R a b) - psI (ask a b - R a b) else 0)) P (fun j hj => ?_), suI_add P, suI_one P hb]
      show psI (ask' a j - R a j) = _
      rw [h a j]
      by_cases c2 : j = b
      · rw [if_pos ⟨rfl, c2⟩, if_pos c2, c2]; omega
      · rw [if_neg (fun z => c2 z.2), if_neg c2]; omega
    · rw [if_neg c]
      rw [suI_cg (g := fun j => psI (ask i j - R i j)) P (fun j hj => ?_)]
      · omega
      · rw [h i j, if_neg (fun z => c z.1)]
  rw [suI_cg P e, suI_add P, suI_one P ha]
theorem lack_0 (h : ∀ i j, i < P → j < P → ask i j - R i j ≤ 0) : lackS R ask P = 0 := by
  unfold lackS
  refine suI_z P (fun i hi => suI_z P (fun j hj => ?_))
  have := h i j hi hj
  unfold psI
  omega
theorem psI_0 {e : Int} : 0 ≤ psI e := by unfold psI; omega
theorem suI_0 : ∀ m, (∀ i, i < m → 0 ≤ n i) → suI n m = 0 → ∀ i, i < m → n i = 0
  | 0, _, _, i, hi => absurd hi (Nat.not_lt_zero i)
  | m + 1, h, hs, i, hi => by
    have q1 := suI_nn (f := n) (n := m) (fun i hi => h i (by omega))
    have q2 := h m (by omega)
    have hs : suI n m + n m = 0 := hs
    by_cases e : i = m
    · rw [e]; omega
    · exact suI_0 m (fun i hi => h i (by omega)) (by omega) i (by omega)
theorem lack_i (h : lackS R ask P = 0) (hi : i < P) (hj : j < P) : ask i j ≤ R i j := by
  unfold lackS at h
  have q := suI_0 P (fun i _ => suI_nn (fun j _ => psI_0)) h i hi
  have q2 := suI_0 P (fun j _ => psI_0) q j hj
  unfold psI at q2
  omega
theorem lack_nn : 0 ≤ lackS R ask P := by
  unfold lackS
  exact suI_nn (fun i _ => suI_nn (fun j _ => psI_0))
/-! the class -/
def aqW (w : pm_W) (i j : Nat) : Int := ((gA w 75).getD (9 * i + j) 0).toInt
def spW (w : pm_W) (p : Nat) : Int := ((gA w 76).getD p 0).toInt
theorem l75 (hS : SK w) : (gA w 75).length = 81 := SK_len hS (a := 75) (n := 81) (by decide +kernel) (by decide)
theorem l76 (hS : SK w) : (gA w 76).length = 9 := SK_len hS (a := 76) (n := 9) (by decide +kernel) (by decide)
theorem aqW_s {a b : Nat} (hS : SK w) (ha : a < 9) (hb : b < 9) (hx : x.toInt = (9 * a + b : Nat)) (i j : Nat) (hi : i < 9) (hj : j < 9) : aqW (aS w 75 x y) i j = if i = a ∧ j = b then y.toInt else aqW w i j := by
  unfold aqW
  rw [gA_aS (SK_isA hS (by decide +kernel)), i_nat hx, getD_set (by rw [l75 hS]; omega)]
  by_cases e : i = a ∧ j = b
  · rw [if_pos (by omega), if_pos e]
  · rw [if_neg (by omega), if_neg e]
theorem spW_s (hS : SK w) (hx : x.toInt = a) (ha : a < 9) (q : Nat) : spW (aS w 76 x y) q = if q = a then y.toInt else spW w q := by
  unfold spW
  rw [gA_aS (SK_isA hS (by decide +kernel)), i_nat hx, getD_set (by rw [l76 hS]; exact ha)]
  by_cases e : q = a
  · rw [if_pos e, if_pos e]
  · rw [if_neg e, if_neg e]
theorem aq_76 : aqW (aS w 76 x y) = aqW w := by funext i j; unfold aqW; rw [gA_aS_ne (by decide)]
theorem sp_75 : spW (aS w 75 x y) = spW w := by funext i; unfold spW; rw [gA_aS_ne (by decide)]
/-- the village that wishes look at: W wants, each with its A, B, n -/
def WSH (w : pm_W) (P W : Nat) (A B : Nat → Nat) (n : Nat → Int) : Prop := ∃ v : Nat, gR w 68 0 = v ∧ (gI w v 0).toInt = P ∧ P ≤ 9 ∧ (gI w v 2).toInt = W ∧ W ≤ 7 ∧ gR w v 6 = v + 4 ∧ v + 4 < 60 ∧ (∀ κ, κ < W → ((gA w (v + 4)).getD (4 * κ) 0).toInt = A κ ∧ ((gA w (v + 4)).getD (4 * κ + 1) 0).toInt = B κ ∧ ((gA w (v + 4)).getD (4 * κ + 2) 0).toInt = n κ) ∧ ∀ κ, κ < W → A κ < P ∧ B κ < P ∧ 1 ≤ n κ ∧ n κ ≤ 99
theorem WSH_fm {fs : List (Nat × Nat)} {as : List Nat} (h : WSH w P W A B n) (f : FM fs as w w') (h1 : ∀ p, p ∈ fs → p.1 = 68 ∧ p.2 ≠ 0) (h2 : ∀ a, a ∈ as → 64 ≤ a) : WSH w' P W A B n := by
  obtain ⟨v, a1, a2, a3, a4, a5, a6, a7, a8, a9⟩ := h
  have nf : ∀ q, q ≠ 68 → ∀ c, (q, c) ∉ fs := fun q hq c hm => hq (h1 _ hm).1
  have n0 : (68, 0) ∉ fs := fun hm => (h1 _ hm).2 rfl
  have na : v + 4 ∉ as := fun hm => by have := h2 _ hm; omega
  refine ⟨v, by rw [FM_r f n0]; exact a1, by rw [FM_i f (nf v (by omega) 0)]; exact a2, a3, by rw [FM_i f (nf v (by omega) 2)]; exact a4, a5, by rw [FM_r f (nf v (by omega) 6)]; exact a6, a7, fun κ hκ => ?_, a9⟩
  rw [FM_a f na]
  exact a8 κ hκ
theorem F170_20 (hV : WSH w0 P W A B n) (hR : ∀ i j, i < P → j < P → 0 ≤ rmW w0 i j ∧ rmW w0 i j ≤ 1000) (hm1 : MSK i1 7 (fun b => s.testBit b)) : ∀ (k t : Nat) (w : pm_W) (i2 i3 : Int32) (u4 u5 u6 u7 : Value), FM [] [75, 76] w0 w → i3.toInt = t → t ≤ W → (∀ i j, i < 9 → j < 9 → aqW w i j = askS A B n s t i j) → (∀ p, p < 9 → spW w p = surS A B n s t p) → i2.toInt = lackS (rmW w0) (askS A B n s t) P → PS X k 170 20 [.ref 68, .int i1, .int i2, .int i3, u4, u5, u6, u7] [] w r w' → FM [] [75, 76] w0 w' ∧ (∀ i j, i < 9 → j < 9 → aqW w' i j = askS A B n s W i j) ∧ (∀ p, p < 9 → spW w' p = surS A B n s W p) ∧ ∃ z : Int32, r = some (.int z) ∧ z.toInt = lackS (rmW w0) (askS A B n s W) P := by
  obtain ⟨v, a1, a2, a3, a4, a5, a6, a7, a8, a9⟩ := id hV
  have hn : ∀ κ, κ < W → 1 ≤ n κ ∧ n κ ≤ 99 := fun κ hκ => ⟨(a9 κ hκ).2.2.1, (a9 κ hκ).2.2.2⟩
  have lb : ∀ t, t ≤ W → lackS (rmW w0) (askS A B n s t) P ≤ 81 * 700 := by
    intro t ht
    have q : ∀ i, i < P → suI (fun j => psI (askS A B n s t i j - rmW w0 i j)) P ≤ 9 * 700 := by
      intro i hi
      have q := suI_le (f := fun j => psI (askS A B n s t i j - rmW w0 i j)) (g := fun _ => 700) P (fun j hj => by
        have b := ask_b (A := A) (B := B) (s := s) (i := i) (j := j) hn t ht
        have c := hR i j hi hj
        unfold psI
        omega)
      have e : ∀ m, suI (fun _ => (700 : Int)) m = 700 * m := by
        intro m
        induction m with
        | zero => rfl
        | succ m ih => show suI _ m + 700 = _; rw [ih]; omega
      rw [e] at q
      omega
    have q2 := suI_le (f := fun i => suI (fun j => psI (askS A B n s t i j - rmW w0 i j)) P) (g := fun _ => 9 * 700) P q
    have e : ∀ m, suI (fun _ => (9 * 700 : Int)) m = 9 * 700 * m := by
      intro m
      induction m with
      | zero => rfl
      | succ m ih => show suI _ m + 9 * 700 = _; rw [ih]; omega
    rw [e] at q2
    unfold lackS
    omega
  intro k
  induction k with
  | zero => intro t w i2 i3 u4 u5 u6 u7 _ _ _ _ _ _ h; exact (PS_0 h).elim
  | succ k ih =>
    intro t w i2 i3 u4 u5 u6 u7 fm h3 ht ha hs h2 h
    have hS : SK w := fm.2.2.2
    have h := U170_20 hS h
    rw [FM_r fm (by simp), a1, FM_i fm (by simp)] at h
    by_cases c : gI w0 v 2 ≤ i3
    · rw [if_pos c] at h
      rw [Int32.le_iff_toInt_le, a4, h3] at c
      have e : t = W := by omega
      rw [e] at ha hs h2
      rw [h.2]
      exact ⟨fm, ha, hs, i2, h.1, h2⟩
    · rw [if_neg c] at h
      rw [Int32.le_iff_toInt_le, a4, h3] at c
      have htW : t < W := by omega
      have e1 : (i3 + 1).toInt = ((t + 1 : Nat) : Int) := by rw [zi_inc (n := 40) (by omega) (by omega), h3]; rfl
      have h := use_p hS h (fun _ _ y => F89m hS hm1 h3 (by omega) (by decide) y)
      cases hb : s.testBit t with
      | false =>
        rw [hb, if_pos (by decide +kernel)] at h
        have ea : ∀ i j, askS A B n s (t + 1) i j = askS A B n s t i j := fun i j => by rw [ask_s, hb, if_neg (fun z => Bool.noConfusion z.1)]; omega
        refine ih (t + 1) w i2 _ _ _ _ _ fm e1 (by omega) (fun i j hi hj => by rw [ea]; exact ha i j hi hj) (fun p hp => by rw [sur_s, hb, if_neg Bool.false_ne_true, hs p hp]; omega) ?_ h
        rw [h2]
        congr 1
        funext i j
        exact (ea i j).symm
      | true =>
        rw [hb, if_neg (by decide +kernel)] at h
        have hv6 : gR w v 6 = v + 4 := by rw [FM_r fm (by simp)]; exact a6
        have hg : gR w 68 0 = v := by rw [FM_r fm (by simp)]; exact a1
        obtain ⟨b1, b2, b3⟩ := a8 t htW
        obtain ⟨c1, c2, c3, c4⟩ := a9 t htW
        have ev4 : gA w (v + 4) = gA w0 (v + 4) := FM_a fm (by simp; omega)
        have F : ∀ (c : Nat) (p : Int32) (r1 : Option Value) (w2 : pm_W), p.toInt = c → c < 4 → PS X k 65 0 [.ref v, .int i3, .int p] [] w r1 w2 → r1 = some (.int ((gA w0 (v + 4)).getD (4 * t + c) 0)) ∧ w2 = w := by
          intro c p r1 w2 hc hc4 y
          obtain ⟨d1, d2⟩ := F65 hS hv6 y
          refine ⟨?_, d2⟩
          rw [d1, aG_n (m := 4 * t + c) (by rw [zi_add (zi_mul h3 four32 (by omega) (by omega)) hc (by omega) (by omega)]; omega), ev4]
        rw [hg] at h
        have h := use_p hS h (fun _ _ y => F 2 2 _ _ two32 (by decide) y)
        rw [hg] at h
        have h := use_p hS h (fun _ _ y => F 0 0 _ _ z32 (by decide) y)
        rw [hg] at h
        have h := use_p hS h (fun _ _ y => F 1 1 _ _ o32 (by decide) y)
        have b1 : ((gA w0 (v + 4)).getD (4 * t + 0) 0).toInt = A t := b1
        obtain ⟨xa, hxa⟩ : ∃ xa, xa = (gA w0 (v + 4)).getD (4 * t + 0) 0 := ⟨_, rfl⟩
        obtain ⟨xb, hxb⟩ : ∃ xb, xb = (gA w0 (v + 4)).getD (4 * t + 1) 0 := ⟨_, rfl⟩
        obtain ⟨xn, hxn⟩ : ∃ xn, xn = (gA w0 (v + 4)).getD (4 * t + 2) 0 := ⟨_, rfl⟩
        rw [← hxa, ← hxb, ← hxn] at h
        rw [← hxa] at b1
        rw [← hxb] at b2
        rw [← hxn] at b3
        have A9 : A t < 9 := by omega
        have B9 : B t < 9 := by omega
        obtain ⟨k1, hk1, h⟩ := use_z hS h (fun _ _ q => F52n hS b1 b2 A9 B9 q)
        obtain ⟨_, h⟩ := h
        obtain ⟨k2, hk2, h⟩ := use_z hS h (fun _ _ q => F52n hS b1 b2 A9 B9 q)
        obtain ⟨_, h⟩ := h
        obtain ⟨k3, hk3, h⟩ := use_z hS h (fun _ _ q => F52n hS b1 b2 A9 B9 q)
        obtain ⟨_, _, h⟩ := h
        have h := h _ rfl
        have S1 : SK (aS w 75 k3 (aG w 75 k3 + xn)) := SK_aS hS
        obtain ⟨k4, hk4, h⟩ := use_z S1 h (fun _ _ q => F52n S1 b1 b2 A9 B9 q)
        obtain ⟨_, h⟩ := h
        obtain ⟨k5, hk5, h⟩ := use_z S1 h (fun _ _ q => F52n S1 b1 b2 A9 B9 q)
        obtain ⟨_, _, _, h⟩ := h
        have h := h _ rfl
        obtain ⟨_, _, h⟩ := h
        have h := h _ rfl
        -- the numbers
        have va : ∀ q : Int32, q.toInt = (9 * A t + B t : Nat) → (aG w 75 q).toInt = askS A B n s t (A t) (B t) := fun q hq => by
          rw [aG_n hq]
          exact ha (A t) (B t) A9 B9
        have vr : ∀ (w1 : pm_W) (q : Int32), gA w1 74 = gA w 74 → q.toInt = (9 * A t + B t : Nat) → (aG w1 74 q).toInt = rmW w0 (A t) (B t) := fun w1 q hw hq => by
          rw [aG_n hq, hw, FM_a fm (by decide)]
          rfl
        obtain ⟨q1, q2⟩ := ask_b (A := A) (B := B) (s := s) (i := A t) (j := B t) hn t (by omega)
        obtain ⟨q3, q4⟩ := hR (A t) (B t) c1 c2
        have vn : (aG w 75 k3 + xn).toInt = askS A B n s t (A t) (B t) + n t := zi_add (va k3 hk3) b3 (by omega) (by omega)
        have aq1 := aqW_s (y := aG w 75 k3 + xn) hS A9 B9 hk3
        have v4 : (aG (aS w 75 k3 (aG w 75 k3 + xn)) 75 k4).toInt = askS A B n s t (A t) (B t) + n t := by
          rw [aG_n hk4]
          show aqW _ (A t) (B t) = _
          rw [aq1 (A t) (B t) A9 B9, if_pos ⟨rfl, rfl⟩, vn]
        have v5 : (aG (aS w 75 k3 (aG w 75 k3 + xn)) 74 k5).toInt = rmW w0 (A t) (B t) := vr _ k5 (gA_aS_ne (by decide)) hk5
        have d1 : (aG w 75 k1 - aG w 74 k2).toInt = askS A B n s t (A t) (B t) - rmW w0 (A t) (B t) := zi_sub (va k1 hk1) (vr w k2 rfl hk2) (by omega) (by omega)
        have d2 : (aG (aS w 75 k3 (aG w 75 k3 + xn)) 75 k4 - aG (aS w 75 k3 (aG w 75 k3 + xn)) 74 k5).toInt = askS A B n s t (A t) (B t) + n t - rmW w0 (A t) (B t) := zi_sub v4 v5 (by omega) (by omega)
        have mx : ∀ (q : Int32) (e : Int), q.toInt = e → (if 0 < q then q else 0).toInt = psI e := by
          intro q e he
          unfold psI
          by_cases c : 0 < q
          · rw [if_pos c, he]
            rw [Int32.lt_iff_toInt_lt, z32, he] at c
            omega
          · rw [if_neg c, z32]
            rw [Int32.lt_iff_toInt_lt, z32, he] at c
            omega
        have m1 := mx _ _ d1
        have m2 := mx _ _ d2
        -- the surplus
        have sA : ∀ w1 : pm_W, spW w1 = spW w → (aG w1 76 xa).toInt = surS A B n s t (A t) := fun w1 hw => by
          rw [aG_n b1]
          show spW w1 (A t) = _
          rw [hw]
          exact hs _ A9
        obtain ⟨q5, q6⟩ := sur_b (A := A) (B := B) (s := s) (p := A t) hn t (by omega)
        obtain ⟨q7, q8⟩ := sur_b (A := A) (B := B) (s := s) (p := B t) hn t (by omega)
        have s1 : (aG (aS w 75 k3 (aG w 75 k3 + xn)) 76 xa - xn).toInt = surS A B n s t (A t) - n t := zi_sub (sA _ sp_75) b3 (by omega) (by omega)
        have S2 : SK (aS (aS w 75 k3 (aG w 75 k3 + xn)) 76 xa (aG (aS w 75 k3 (aG w 75 k3 + xn)) 76 xa - xn)) := SK_aS S1
        obtain ⟨W2, hW2⟩ : ∃ W2, W2 = aS (aS w 75 k3 (aG w 75 k3 + xn)) 76 xa (aG (aS w 75 k3 (aG w 75 k3 + xn)) 76 xa - xn) := ⟨_, rfl⟩
        rw [← hW2] at h S2
        have sp2 : ∀ q, spW W2 q = if q = A t then surS A B n s t (A t) - n t else spW w q := fun q => by
          rw [hW2, spW_s S1 b1 A9, s1, sp_75]
        have sB : (aG W2 76 xb).toInt = if B t = A t then surS A B n s t (A t) - n t else surS A B n s t (B t) := by
          rw [aG_n b2]
          show spW W2 (B t) = _
          rw [sp2, hs _ B9]
        have s2 : (aG W2 76 xb + xn).toInt = (if B t = A t then surS A B n s t (A t) - n t else surS A B n s t (B t)) + n t := zi_add sB b3 (by split <;> omega) (by split <;> omega)
        have sp3 := spW_s (y := aG W2 76 xb + xn) S2 b2 B9
        have f4 : FM [] [75, 76] w (aS W2 76 xb (aG W2 76 xb + xn)) := by
          have f1 : FM [] [75, 76] w (aS w 75 k3 (aG w 75 k3 + xn)) := FM_aS hS (by decide)
          have f2 : FM [] [75, 76] (aS w 75 k3 (aG w 75 k3 + xn)) W2 := by rw [hW2]; exact FM_aS S1 (by decide)
          exact FM_trans f1 (FM_trans f2 (FM_aS S2 (by decide)))
        have eaq : ∀ i j, askS A B n s (t + 1) i j = if i = A t ∧ j = B t then askS A B n s t (A t) (B t) + n t else askS A B n s t i j := by
          intro i j
          rw [ask_s, hb]
          by_cases e : i = A t ∧ j = B t
          · rw [if_pos e, if_pos ⟨rfl, e.1.symm, e.2.symm⟩, e.1, e.2]
          · rw [if_neg e, if_neg (fun z => e ⟨z.2.1.symm, z.2.2.symm⟩)]; omega
        have hl := lack_s (R := rmW w0) (ask := askS A B n s t) (ask' := askS A B n s (t + 1)) (d := askS A B n s t (A t) (B t) + n t) c1 c2 eaq
        have l1 := lb t (by omega)
        have l2 := lb (t + 1) (by omega)
        have l3 := lack_nn (R := rmW w0) (ask := askS A B n s t) (P := P)
        have l4 := lack_nn (R := rmW w0) (ask := askS A B n s (t + 1)) (P := P)
        refine ih (t + 1) _ _ _ _ _ _ _ (FM_trans fm f4) e1 (by omega) (fun i j hi hj => ?_) (fun p hp => ?_) ?_ h
        · rw [eaq, show aqW (aS W2 76 xb (aG W2 76 xb + xn)) i j = aqW (aS w 75 k3 (aG w 75 k3 + xn)) i j by rw [aq_76, hW2, aq_76], aq1 i j hi hj, vn, ha i j hi hj]
        · rw [sp3 p, s2, sp2, sur_s, hb, if_pos rfl]
          by_cases e1 : p = B t
          · rw [if_pos e1, if_pos e1.symm, e1]
            by_cases e2 : B t = A t
            · rw [if_pos e2, if_pos e2.symm, e2]; omega
            · rw [if_neg e2, if_neg (show ¬ A t = B t from fun z => e2 z.symm)]; omega
          · rw [if_neg e1, if_neg (show ¬ B t = p from fun z => e1 z.symm)]
            by_cases e2 : p = A t
            · rw [if_pos e2, if_pos e2.symm, e2]; omega
            · rw [if_neg e2, if_neg (show ¬ A t = p from fun z => e2 z.symm), hs p hp]; omega
        · rw [zi_add h2 (zi_sub m2 m1 (by unfold psI; omega) (by unfold psI; omega)) (by omega) (by omega), hl]
theorem F170 (hS : SK w) (hV : WSH w P W A B n) (hR : ∀ i j, i < P → j < P → 0 ≤ rmW w i j ∧ rmW w i j ≤ 1000) (hm1 : MSK p1 7 (fun b => s.testBit b)) (h : PS X k 170 0 [.ref 68, .int p1, pm_dead, pm_dead, pm_dead, pm_dead, pm_dead, pm_dead] [] w r w') : FM [] [75, 76] w w' ∧ (∀ i j, i < 9 → j < 9 → aqW w' i j = askS A B n s W i j) ∧ (∀ p, p < 9 → spW w' p = surS A B n s W p) ∧ ∃ z : Int32, r = some (.int z) ∧ z.toInt = lackS (rmW w) (askS A B n s W) P := by
  cases k with
  | zero => exact (PS_0 h).elim
  | succ k =>
    obtain ⟨q1, w2, y, h⟩ := U170_0 hS h
    obtain ⟨a1, f1, l1⟩ := F20_n (N := 81) hS (by decide +kernel) (l75 hS) (by decide) y
    have S2 := f1.2.2.2
    obtain ⟨q3, w4, y4, h⟩ := h a1 S2
    obtain ⟨a2, f2, l2⟩ := F20_n (N := 9) S2 (by decide +kernel) (l76 S2) (by decide) y4
    have h := h a2 f2.2.2.2
    have f3 : FM [] [75, 76] w w4 := FM_trans (FM_mono f1 (by intro x hx; cases hx) (by decide)) (FM_mono f2 (by intro x hx; cases hx) (by decide))
    have er : rmW w4 = rmW w := by funext i j; unfold rmW; rw [FM_a f3 (by decide)]
    have z0 : lackS (rmW w4) (askS A B n s 0) P = 0 := lack_0 (fun i j hi hj => by
      rw [er]
      have := hR i j hi hj
      show (0 : Int) - _ ≤ 0
      omega)
    obtain ⟨b1, b2, b3, b4⟩ := F170_20 (w0 := w4) (WSH_fm hV f3 (by intro p hp; cases hp) (by decide)) (by rw [er]; exact hR) hm1 k 0 w4 0 0 _ _ _ _ (FM_refl f2.2.2.2) z32 (Nat.zero_le _) (fun i j hi hj => by
      unfold aqW
      rw [FM_a f2 (by decide), l1 _ (by omega), z32]
      rfl) (fun p hp => by
      unfold spW
      rw [l2 p hp, z32]
      rfl) (by rw [z0, z32]) h
    rw [er] at b4
    exact ⟨FM_trans f3 b1, b2, b3, b4⟩
end IPC
end
section
/-! ===== what can't go round; can a set of wants be had (the class) ===== -/
section IQU
variable {X : pm_X} {k k2 : Nat} {w0 w w1 w2 w3 w4 w5 wj w' : pm_W} {r r2 q0 q1 q2 : Option Value} {p1 p2 p3 p4 p5 i1 i2 i3 i4 i5 i6 i7 i8 z z1 z2 x y : Int32} {i v j m u P t s b Q I J K a T p W M N κ : Nat} {R R' C ask c : Nat → Nat → Int} {e g d sl : Int} {A B : Nat → Nat} {n o : Nat → Int} {S : Nat → Bool}
/-- with two ends -/
def c12 (c : Nat → Nat → Int) (o : Nat → Int) (P a b : Nat) : Int := if a < 10 ∧ b < 10 then c a b else if a = 10 ∧ b < P then psI (o b) else if a < P ∧ b = 11 then psI (-o a) else 0
theorem cut_12 (hP : P ≤ 9) (ho : ∀ p, P ≤ p → o p = 0) (h1 : S 10 = true) (h2 : S 11 = false) : cutC (c12 c o P) S 12 = CUTo c o S 10 := by
  have lo : ∀ a, a < 10 → suI (fun b => bz (!S b) (c12 c o P a b)) 12 = suI (fun b => bz (!S b) (c a b)) 10 + psI (-o a) := by
    intro a ha
    show suI _ 10 + bz (!S 10) (c12 c o P a 10) + bz (!S 11) (c12 c o P a 11) = _
    rw [h1, h2]
    show suI _ 10 + 0 + c12 c o P a 11 = _
    have e : c12 c o P a 11 = psI (-o a) := by
      unfold c12
      rw [if_neg (by omega), if_neg (by omega)]
      by_cases c : a < P
      · rw [if_pos ⟨c, rfl⟩]
      · rw [if_neg (fun z => c z.1), ho a (by omega)]; rfl
    rw [e, suI_cg (g := fun b => bz (!S b) (c a b)) 10 (fun b hb => by
      unfold c12
      rw [if_pos ⟨ha, hb⟩])]
    try omega
  have hi : suI (fun b => bz (!S b) (c12 c o P 10 b)) 12 = suI (fun b => bz (!S b) (psI (o b))) 10 := by
    show suI _ 10 + bz (!S 10) (c12 c o P 10 10) + bz (!S 11) (c12 c o P 10 11) = _
    rw [h1, h2]
    have e : c12 c o P 10 11 = 0 := by
      unfold c12
      rw [if_neg (by omega), if_neg (by omega), if_neg (by omega)]
    show suI _ 10 + 0 + c12 c o P 10 11 = _
    rw [e, suI_cg (g := fun b => bz (!S b) (psI (o b))) 10 (fun b hb => by
      congr 1
      unfold c12
      rw [if_neg (by omega)]
      by_cases c : b < P
      · rw [if_pos ⟨rfl, c⟩]
      · rw [if_neg (fun z => c z.2), if_neg (by omega), ho b (by omega)]; rfl)]
    try omega
  unfold CUTo cutC
  show suI (fun a => bz (S a) (suI (fun b => bz (!S b) (c12 c o P a b)) 12)) 10 + bz (S 10) (suI (fun b => bz (!S b) (c12 c o P 10 b)) 12) + bz (S 11) _ = _
  rw [h1, h2, bz_t, bz_f, hi, suI_cg (g := fun a => bz (S a) (suI (fun b => bz (!S b) (c a b)) 10) + bz (S a) (psI (-o a))) 10 (fun a ha => by
    rw [lo a ha]
    cases S a
    · rfl
    · rfl), suI_add 10, suI_add 10]
  omega
theorem MC_12 (hP : P ≤ 9) (ho : ∀ p, P ≤ p → o p = 0) (h : MCst (c12 c o P) 12 10 11 e) : MCo c o 10 e := by
  obtain ⟨h1, S, h2, h3, h4⟩ := h
  refine ⟨fun S' => ?_, S, by rw [← cut_12 hP ho h2 h3]; exact h4⟩
  have q := h1 (fun a => if a < 10 then S' a else decide (a = 10)) rfl rfl
  rw [cut_12 hP ho rfl rfl] at q
  have e2 : CUTo c o (fun a => if a < 10 then S' a else decide (a = 10)) 10 = CUTo c o S' 10 := by
    have g : ∀ a, a < 10 → (fun a => if a < 10 then S' a else decide (a = 10)) a = S' a := fun a ha => if_pos ha
    generalize (fun a => if a < 10 then S' a else decide (a = 10)) = S2 at g ⊢
    have e3 : cutC c S2 10 = cutC c S' 10 := by
      unfold cutC
      refine suI_cg 10 (fun a ha => ?_)
      rw [g a ha]
      congr 1
      refine suI_cg 10 (fun b hb => ?_)
      rw [g b hb]
    have e4 : suI (fun a => bz (!S2 a) (psI (o a)) + bz (S2 a) (psI (-o a))) 10 = suI (fun a => bz (!S' a) (psI (o a)) + bz (S' a) (psI (-o a))) 10 := suI_cg 10 (fun a ha => by rw [g a ha])
    unfold CUTo
    rw [e3, e4]
  rw [e2] at q
  exact q
theorem sur_hi (hA : ∀ κ, κ < W → A κ < P ∧ B κ < P) (hp : P ≤ p) : ∀ t, t ≤ W → surS A B n s t p = 0 := by
  intro t
  induction t with
  | zero => intro _; rfl
  | succ t ih =>
    intro ht
    obtain ⟨h1, h2⟩ := hA t (by omega)
    rw [sur_s, ih (by omega), if_neg (show ¬ B t = p by omega), if_neg (show ¬ A t = p by omega)]
    split <;> rfl
theorem capS_b (hR : ∀ i j, i < P → j < P → R i j ≤ 1000 ∧ 0 ≤ ask i j) (hs : 0 ≤ sl ∧ sl ≤ 99) (i j : Nat) : 0 ≤ capS R ask P sl i j ∧ capS R ask P sl i j ≤ 1000 := by
  unfold capS
  by_cases c : i < P ∧ j < P
  · rw [if_pos c]
    have := hR i j c.1 c.2
    unfold psI
    omega
  · rw [if_neg c]
    split <;> omega
/-- laid up to a, b -/
def LAYc (c : Nat → Nat → Int) (P a b i j : Nat) : Int := if (i < a ∧ j < P) ∨ (i < a ∧ j = 9) ∨ (i = 9 ∧ j < a) ∨ (i = 10 ∧ j < a) ∨ (i < a ∧ j = 11) ∨ (i = a ∧ j < b) then c i j else 0
theorem F171_l (hg : gR w0 68 0 = v) (hv : v < 60) (hP : (gI w0 v 0).toInt = P) (hP9 : P ≤ 9) (h1 : i1.toInt = sl) (hsl : 0 ≤ sl ∧ sl ≤ 99) (hR : ∀ i j, i < P → j < P → (0 ≤ rmW w0 i j ∧ rmW w0 i j ≤ 1000) ∧ 0 ≤ aqW w0 i j ∧ aqW w0 i j ≤ 1000) (ho : ∀ p, P ≤ p → o p = 0) (hso : ∀ p, p < P → spW w0 p = o p) (hob : ∀ p, -1000 ≤ o p ∧ o p ≤ 1000) (hc : c = c12 (capS (rmW w0) (aqW w0) P sl) o P) : ∀ k : Nat,
    (∀ (w : pm_W) (a : Nat) (i2 i3 : Int32) (u4 : Value), FM [] [80] w0 w → i3.toInt = a → a ≤ P → (∀ i j, i < 12 → j < 12 → frC w i j = LAYc c P a 0 i j) → i2.toInt = suI (fun p => psI (o p)) a → PS X k 171 11 [.ref 68, .int i1, .int i2, .int i3, u4] [] w r w' → FM [] [80, 81, 82] w0 w' ∧ ∃ (z : Int32) (x : Int), r = some (.int z) ∧ z.toInt = suI (fun p => psI (o p)) P - x ∧ MCst c 12 10 11 x) ∧
    (∀ (w : pm_W) (a b : Nat) (i2 i3 i4 : Int32), FM [] [80] w0 w → i3.toInt = a → a < P → i4.toInt = b → b ≤ P → (∀ i j, i < 12 → j < 12 → frC w i j = LAYc c P a b i j) → i2.toInt = suI (fun p => psI (o p)) a → PS X k 171 25 [.ref 68, .int i1, .int i2, .int i3, .int i4] [] w r w' → FM [] [80, 81, 82] w0 w' ∧ ∃ (z : Int32) (x : Int), r = some (.int z) ∧ z.toInt = suI (fun p => psI (o p)) P - x ∧ MCst c 12 10 11 x) := by
  have e10 : (10 : Int32).toInt = (10 : Nat) := by decide +kernel
  have e11 : (11 : Int32).toInt = (11 : Nat) := by decide +kernel
  have e9 : (9 : Int32).toInt = (9 : Nat) := by decide +kernel
  have mx : ∀ (q : Int32) (e : Int), q.toInt = e → (if 0 < q then q else 0).toInt = psI e := by
    intro q e he
    unfold psI
    by_cases c : 0 < q
    · rw [if_pos c, he]
      rw [Int32.lt_iff_toInt_lt, z32, he] at c
      omega
    · rw [if_neg c, z32]
      rw [Int32.lt_iff_toInt_lt, z32, he] at c
      omega
  have cb : ∀ i j, 0 ≤ c i j ∧ c i j ≤ 1000 := by
    intro i j
    rw [hc]
    unfold c12
    by_cases q1 : i < 10 ∧ j < 10
    · rw [if_pos q1]; exact capS_b (fun i j hi hj => ⟨(hR i j hi hj).1.2, (hR i j hi hj).2.1⟩) hsl i j
    · rw [if_neg q1]
      have b1 := hob i
      have b2 := hob j
      unfold psI
      split
      · omega
      · split <;> omega
  have db : ∀ a, a ≤ P → 0 ≤ suI (fun p => psI (o p)) a ∧ suI (fun p => psI (o p)) a ≤ 1000 * a := by
    intro a
    induction a with
    | zero => intro _; exact ⟨Int.le_refl _, Int.le_refl _⟩
    | succ a ih =>
      intro ha
      have q := ih (by omega)
      have b := hob a
      show 0 ≤ suI _ a + psI (o a) ∧ suI _ a + psI (o a) ≤ 1000 * ((a + 1 : Nat) : Int)
      unfold psI at q ⊢
      omega
  intro k
  induction k with
  | zero => exact ⟨fun _ _ _ _ _ _ _ _ _ _ h => (PS_0 h).elim, fun _ _ _ _ _ _ _ _ _ _ _ _ _ h => (PS_0 h).elim⟩
  | succ k ih =>
    obtain ⟨ih11, ih25⟩ := ih
    refine ⟨fun w a i2 i3 u4 fm h3 ha hf h2 h => ?_, fun w a b i2 i3 i4 fm h3 ha h4 hb hf h2 h => ?_⟩
    · have hS : SK w := fm.2.2.2
      have h := U171_11 hS h
      rw [FM_r fm (by simp), hg, FM_i fm (by simp)] at h
      by_cases q : gI w0 v 0 ≤ i3
      · rw [if_pos q] at h
        rw [Int32.le_iff_toInt_le, hP, h3] at q
        have e : a = P := by omega
        rw [e] at hf h2
        obtain ⟨q1, w2, y, h5⟩ := h
        have fc : ∀ i j, i < 12 → j < 12 → frC w i j = c i j := by
          intro i j hi hj
          rw [hf i j hi hj]
          unfold LAYc
          by_cases q1 : (i < P ∧ j < P) ∨ (i < P ∧ j = 9) ∨ (i = 9 ∧ j < P) ∨ (i = 10 ∧ j < P) ∨ (i < P ∧ j = 11) ∨ (i = P ∧ j < 0)
          · rw [if_pos q1]
          · rw [if_neg q1, hc]
            unfold c12 capS
            by_cases q2 : i < 10 ∧ j < 10
            · rw [if_pos q2, if_neg (by omega), if_neg (by omega)]
            · rw [if_neg q2, if_neg (by omega), if_neg (by omega)]
        obtain ⟨f2, z, a1, a2⟩ := F164 (c := c) (s := 10) (t := 11) hS e10 e11 (by decide) (by decide) (by decide) fc (fun i j _ _ => (cb i j).1) (fun i j _ _ => by have := (cb i j).2; have := (cb j i).2; omega) (by
          have q := suI_le (f := fun b => c 10 b) (g := fun _ => 1000) 12 (fun b _ => (cb 10 b).2)
          have : suI (fun _ => (1000 : Int)) 12 = 12000 := by decide
          omega) y
        have h := h5 _ a1 f2.2.2.2
        rw [h.2]
        have zb : 0 ≤ z.toInt ∧ z.toInt ≤ 100000 := by
          obtain ⟨m1, S, m2, m3, m4⟩ := a2
          constructor
          · rw [m4]
            unfold cutC
            refine suI_nn (fun a _ => ?_)
            cases S a
            · exact Int.le_refl _
            · rw [bz_t]
              refine suI_nn (fun b _ => ?_)
              cases S b
              · exact (cb a b).1
              · exact Int.le_refl _
          · have q := m1 (fun a => decide (a = 10)) rfl rfl
            have q2 : cutC c (fun a => decide (a = 10)) 12 ≤ suI (fun a => if a = 10 then 12000 else 0) 12 := by
              unfold cutC
              refine suI_le 12 (fun a _ => ?_)
              by_cases e : a = 10
              · rw [if_pos e]
                show bz (decide (a = 10)) _ ≤ _
                rw [decide_eq_true e, bz_t]
                have q := suI_le (f := fun b => bz (!decide (b = 10)) (c a b)) (g := fun _ => 1000) 12 (fun b _ => by
                  have := cb a b
                  show bz (!decide (b = 10)) (c a b) ≤ 1000
                  unfold bz
                  split <;> omega)
                have : suI (fun _ => (1000 : Int)) 12 = 12000 := by decide
                exact Int.le_trans q (by omega)
              · rw [if_neg e]
                show bz (decide (a = 10)) _ ≤ _
                rw [decide_eq_false e]
                exact Int.le_refl _
            rw [suI_one 12 (by decide)] at q2
            omega
        have dd := db P (Nat.le_refl _)
        refine ⟨FM_trans (FM_mono fm (by intro x hx; cases hx) (by decide)) f2, _, z.toInt, h.1, ?_, a2⟩
        rw [zi_sub h2 rfl (by omega) (by omega)]
      · rw [if_neg q] at h
        rw [Int32.le_iff_toInt_le, hP, h3] at q
        exact ih25 w a 0 i2 i3 0 fm h3 (by omega) z32 (Nat.zero_le _) hf h2 h
    · have hS : SK w := fm.2.2.2
      have h := U171_25 hS h
      rw [FM_r fm (by simp), hg, FM_i fm (by simp)] at h
      by_cases q : gI w0 v 0 ≤ i4
      · rw [if_pos q] at h
        rw [Int32.le_iff_toInt_le, hP, h4] at q
        have eb : b = P := by omega
        rw [eb] at hf
        obtain ⟨r1, w2, y1, h⟩ := h
        obtain ⟨a1, f1, l1⟩ := FALw hS h3 e9 (by omega) (by decide) y1
        have S1 := f1.2.2.2
        obtain ⟨r3, w4, y2, h⟩ := h a1 S1
        obtain ⟨a2, f2, l2⟩ := FALw S1 e9 h3 (by decide) (by omega) y2
        have S2 := f2.2.2.2
        obtain ⟨_, r5, w6, y3, h⟩ := h a2 S2
        obtain ⟨a3, f3, l3⟩ := FALw S2 e10 h3 (by decide) (by omega) y3
        have S3 := f3.2.2.2
        obtain ⟨_, r7, w8, y4, h⟩ := h a3 S3
        obtain ⟨a4, f4, l4⟩ := FALw S3 h3 e11 (by omega) (by decide) y4
        have S4 := f4.2.2.2
        obtain ⟨_, h⟩ := h a4 S4
        have so : ∀ w1, FM [] [80] w w1 → (aG w1 76 i3).toInt = o a := fun w1 hw => by
          rw [aG_n h3, FM_a hw (by decide), FM_a fm (by decide)]
          exact hso a ha
        have f12 := FM_trans f1 f2
        have f123 := FM_trans f12 f3
        have f1234 := FM_trans f123 f4
        have v3 := mx _ _ (so w4 f12)
        have ba := hob a
        have v4 := mx _ _ (zi_neg (so w6 f123) (by omega) (by omega))
        have v5 := mx _ _ (so w8 f1234)
        rw [h1] at l1 l2
        rw [v3] at l3
        rw [v4] at l4
        have da := db a (by omega)
        have da1 := db (a + 1) (by omega)
        have ds : suI (fun p => psI (o p)) (a + 1) = suI (fun p => psI (o p)) a + psI (o a) := rfl
        refine ih11 w8 (a + 1) _ _ _ (FM_trans fm f1234) (by rw [zi_inc (n := 40) (by omega) (by omega), h3]; rfl) (by omega) (fun i j hi hj => ?_) (by rw [zi_add h2 v5 (by omega) (by omega), ds]) h
        rw [l4 i j hi hj, l3 i j hi hj, l2 i j hi hj, l1 i j hi hj, hf i j hi hj]
        have cc : ∀ i j, c i j = if i < 10 ∧ j < 10 then capS (rmW w0) (aqW w0) P sl i j else if i = 10 ∧ j < P then psI (o j) else if i < P ∧ j = 11 then psI (-o i) else 0 := fun i j => by rw [hc]; rfl
        by_cases k1 : i = a ∧ j = 11
        · rw [if_pos k1]
          unfold LAYc
          rw [if_pos (by omega), cc, if_neg (by omega), if_neg (by omega), if_pos (by omega), k1.1]
        · rw [if_neg k1]
          by_cases k2 : i = 10 ∧ j = a
          · rw [if_pos k2]
            unfold LAYc
            rw [if_pos (by omega), cc, if_neg (by omega), if_pos (by omega), k2.2]
          · rw [if_neg k2]
            by_cases k3 : i = 9 ∧ j = a
            · rw [if_pos k3]
              unfold LAYc
              rw [if_pos (by omega), cc, if_pos (by omega)]
              unfold capS
              rw [if_neg (by omega), if_pos (by omega)]
            · rw [if_neg k3]
              by_cases k4 : i = a ∧ j = 9
              · rw [if_pos k4]
                unfold LAYc
                rw [if_pos (by omega), cc, if_pos (by omega)]
                unfold capS
                rw [if_neg (by omega), if_pos (by omega)]
              · rw [if_neg k4]
                unfold LAYc
                by_cases k5 : (i < a ∧ j < P) ∨ (i < a ∧ j = 9) ∨ (i = 9 ∧ j < a) ∨ (i = 10 ∧ j < a) ∨ (i < a ∧ j = 11) ∨ (i = a ∧ j < P)
                · rw [if_pos k5, if_pos (by omega)]
                · rw [if_neg k5, if_neg (by omega)]
      · rw [if_neg q] at h
        rw [Int32.le_iff_toInt_le, hP, h4] at q
        obtain ⟨k1, hk1, h⟩ := use_z hS h (fun _ _ t => F52n hS h3 h4 (by omega) (by omega) t)
        obtain ⟨_, h⟩ := h
        obtain ⟨k2, hk2, h⟩ := use_z hS h (fun _ _ t => F52n hS h3 h4 (by omega) (by omega) t)
        obtain ⟨_, r15, w16, y1, h⟩ := h
        obtain ⟨a1, f1, l1⟩ := FALw hS h3 h4 (by omega) (by omega) y1
        have h := h a1 f1.2.2.2
        obtain ⟨⟨g1, g2⟩, g3, g4⟩ := hR a b ha (by omega)
        have v1 : (aG w 74 k1).toInt = rmW w0 a b := by rw [aG_n hk1, FM_a fm (by decide)]; rfl
        have v2 : (aG w 75 k2).toInt = aqW w0 a b := by rw [aG_n hk2, FM_a fm (by decide)]; rfl
        have v3 := mx _ _ (zi_sub v1 v2 (by omega) (by omega))
        rw [v3] at l1
        refine ih25 w16 a (b + 1) i2 i3 _ (FM_trans fm f1) h3 ha (by rw [zi_inc (n := 40) (by omega) (by omega), h4]; rfl) (by omega) (fun i j hi hj => ?_) h2 h
        rw [l1 i j hi hj, hf i j hi hj]
        unfold LAYc
        by_cases k1 : i = a ∧ j = b
        · rw [if_pos k1, if_pos (by omega), hc]
          unfold c12 capS
          rw [if_pos (by omega), if_pos (by omega), k1.1, k1.2]
        · rw [if_neg k1]
          by_cases k5 : (i < a ∧ j < P) ∨ (i < a ∧ j = 9) ∨ (i = 9 ∧ j < a) ∨ (i = 10 ∧ j < a) ∨ (i < a ∧ j = 11) ∨ (i = a ∧ j < b)
          · rw [if_pos k5, if_pos (by omega)]
          · rw [if_neg k5, if_neg (by omega)]
theorem F171 (hS : SK w) (hg : gR w 68 0 = v) (hv : v < 60) (hP : (gI w v 0).toInt = P) (hP9 : P ≤ 9) (h1 : p1.toInt = sl) (hsl : 0 ≤ sl ∧ sl ≤ 99) (hR : ∀ i j, i < P → j < P → (0 ≤ rmW w i j ∧ rmW w i j ≤ 1000) ∧ 0 ≤ aqW w i j ∧ aqW w i j ≤ 1000) (ho : ∀ p, P ≤ p → o p = 0) (hso : ∀ p, p < P → spW w p = o p) (hob : ∀ p, -1000 ≤ o p ∧ o p ≤ 1000) (h : PS X k 171 0 [.ref 68, .int p1, pm_dead, pm_dead, pm_dead] [] w r w') : FM [] [80, 81, 82] w w' ∧ ∃ (z : Int32) (x : Int), r = some (.int z) ∧ z.toInt = suI (fun p => psI (o p)) 10 - x ∧ MCo (capS (rmW w) (aqW w) P sl) o 10 x := by
  cases k with
  | zero => exact (PS_0 h).elim
  | succ k =>
    obtain ⟨q1, w2, y, h⟩ := U171_0 hS h
    obtain ⟨a1, f2, l2⟩ := F162 hS y
    have h := h a1 f2.2.2.2
    obtain ⟨b1, z, x, b2, b3, b4⟩ := (F171_l hg hv hP hP9 h1 hsl hR ho hso hob rfl k).1 w2 0 0 0 _ f2 z32 (Nat.zero_le _) (fun i j hi hj => by
      rw [l2 i j hi hj]
      unfold LAYc
      rw [if_neg (by omega)]) z32 h
    refine ⟨b1, z, x, b2, ?_, MC_12 hP9 ho b4⟩
    rw [b3]
    congr 1
    exact (suI_ext (show P ≤ 10 by omega) (fun p h1 _ => by rw [ho p h1]; rfl)).symm
/-- a set of wants can be had -/
def CANH (R : Nat → Nat → Int) (P W : Nat) (A B : Nat → Nat) (n : Nat → Int) (s : Nat) (sl : Int) : Prop := (∀ i j, i < P → j < P → askS A B n s W i j ≤ R i j) ∧ MCo (capS R (askS A B n s W) P sl) (surS A B n s W) 10 (suI (fun p => psI (surS A B n s W p)) 10)
theorem capS_cg {ask' : Nat → Nat → Int} (h : ∀ i j, i < P → j < P → R i j = R' i j ∧ ask i j = ask' i j) : capS R ask P sl = capS R' ask' P sl := by
  funext i j
  unfold capS
  by_cases c : i < P ∧ j < P
  · rw [if_pos c, if_pos c, (h i j c.1 c.2).1, (h i j c.1 c.2).2]
  · rw [if_neg c, if_neg c]
theorem F169 (hS : SK w) (hV : WSH w P W A B n) (hR : ∀ i j, i < P → j < P → 0 ≤ rmW w i j ∧ rmW w i j ≤ 1000) (hm1 : MSK p1 7 (fun b => s.testBit b)) (h2 : p2.toInt = sl) (hsl : 0 ≤ sl ∧ sl ≤ 99) (h : PS X k 169 0 [.ref 68, .int p1, .int p2] [] w r w') : FM [] [75, 76, 80, 81, 82] w w' ∧ ∃ b : Bool, r = some (.int (b2i b)) ∧ (b = true ↔ CANH (rmW w) P W A B n s sl) := by
  cases k with
  | zero => exact (PS_0 h).elim
  | succ k =>
    obtain ⟨q1, w2, y, h⟩ := U169_0 hS h
    obtain ⟨f1, a1, a2, z, a3, a4⟩ := F170 hS hV hR hm1 y
    have S2 := f1.2.2.2
    have h := h _ a3 S2
    have er : rmW w2 = rmW w := by funext i j; unfold rmW; rw [FM_a f1 (by decide)]
    obtain ⟨v, b1, b2, b3, b4, b5, b6, b7, b8, b9⟩ := WSH_fm hV f1 (by intro p hp; cases hp) (by decide)
    have hn : ∀ κ, κ < W → 1 ≤ n κ ∧ n κ ≤ 99 := fun κ hκ => ⟨(b9 κ hκ).2.2.1, (b9 κ hκ).2.2.2⟩
    have hAB : ∀ κ, κ < W → A κ < P ∧ B κ < P := fun κ hκ => ⟨(b9 κ hκ).1, (b9 κ hκ).2.1⟩
    by_cases c : z = 0
    · rw [if_pos c] at h
      rw [c, z32] at a4
      obtain ⟨q4, w5, y5, h⟩ := h
      obtain ⟨f5, z5, x, c1, c2, c3⟩ := F171 (o := surS A B n s W) S2 b1 (by omega) b2 b3 h2 hsl (fun i j hi hj => by
        rw [er, a1 i j (by omega) (by omega)]
        have := ask_b (A := A) (B := B) (s := s) (i := i) (j := j) hn W (Nat.le_refl _)
        exact ⟨hR i j hi hj, by omega, by omega⟩) (fun p hp => sur_hi hAB hp W (Nat.le_refl _)) (fun p hp => a2 p (by omega)) (fun p => by
        have := sur_b (A := A) (B := B) (s := s) (p := p) hn W (Nat.le_refl _)
        omega) y5
      have ecap : capS (rmW w2) (aqW w2) P sl = capS (rmW w) (askS A B n s W) P sl := capS_cg (fun i j hi hj => ⟨by rw [er], a1 i j (by omega) (by omega)⟩)
      rw [ecap] at c3
      have h := h _ c1 f5.2.2.2
      have f15 := FM_trans (FM_mono f1 (by intro x hx; cases hx) (by decide)) (FM_mono f5 (by intro x hx; cases hx) (by decide) : FM [] [75, 76, 80, 81, 82] w2 w5)
      by_cases c5 : z5 = 0
      · rw [if_pos c5] at h
        rw [c5, z32] at c2
        rw [h.2]
        refine ⟨f15, true, h.1, fun _ => ⟨fun i j hi hj => lack_i a4.symm hi hj, ?_⟩, fun _ => rfl⟩
        rw [show suI (fun p => psI (surS A B n s W p)) 10 = x by omega]
        exact c3
      · rw [if_neg c5] at h
        rw [h.2]
        refine ⟨f15, false, h.1, fun z => Bool.noConfusion z, fun hc => ?_⟩
        have u := MCo_uq c3 hc.2
        exact absurd (Int32.toInt_inj.mp (by rw [c2, z32]; omega)) c5
    · rw [if_neg c] at h
      rw [h.2]
      refine ⟨FM_mono f1 (by intro x hx; cases hx) (by decide), false, h.1, fun z => Bool.noConfusion z, fun hc => ?_⟩
      have q := lack_0 (fun i j hi hj => by have := hc.1 i j hi hj; omega : ∀ i j, i < P → j < P → askS A B n s W i j - rmW w i j ≤ 0)
      exact absurd (Int32.toInt_inj.mp (by rw [a4, z32, q])) c
end IQU
end
