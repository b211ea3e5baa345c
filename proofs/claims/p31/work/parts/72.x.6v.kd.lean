/-! ===== state: debts parted, the class ===== -/
section KDA
variable {X : pm_X} {k k2 : Nat} {w0 w w1 w2 w3 w4 w5 wj w' : pm_W} {r r2 q0 q1 : Option Value} {p1 p2 p3 p4 p5 i1 i2 i3 i4 i5 i6 i7 i8 z z1 z2 x n : Int32} {a i v j m u P t s b d q p f N K B : Nat} {y : Int} {D D' T V V' G G' : Nat → Int32} {e e' : Nat → Nat}
theorem wkP_x (h : wkP T f e m) (hn : ∀ i, i < m → e i ≠ e m) (hq : nxP T (e m) q) : ∃ e' : Nat → Nat, wkP T f e' (m + 1) ∧ e' (m + 1) = q ∧ ∀ i, i ≤ m → e' i = e i := by
  obtain ⟨h0, h1, h2, h3⟩ := h
  have el : ∀ i, i ≤ m → (fun i => if i = m + 1 then q else e i) i = e i := fun i hi => if_neg (by omega)
  have eh : (fun i => if i = m + 1 then q else e i) (m + 1) = q := if_pos rfl
  refine ⟨fun i => if i = m + 1 then q else e i, ⟨?_, fun i hi => ?_, fun i hi => ?_, fun i j hij hj => ?_⟩, eh, el⟩
  · rw [el 0 (Nat.zero_le _)]; exact h0
  · by_cases c : i = m + 1
    · rw [c, eh]; exact hq.1
    · rw [el i (by omega)]; exact h1 i (by omega)
  · by_cases c : i = m
    · rw [c, el m (Nat.le_refl m), eh]; exact hq
    · rw [el i (by omega), el (i + 1) (by omega)]; exact h2 i (by omega)
  · rw [el i (by omega), el j (by omega)]
    by_cases c : j = m
    · rw [c]; exact hn i (by omega)
    · exact h3 i j hij (by omega)
def lgD (w : pm_W) (q : Nat) : Int32 := (gA w 43).getD q 0
theorem l43 (hS : SK w) : (gA w 43).length = 81 := SK_len hS (a := 43) (n := 81) (by decide +kernel) (by decide)
theorem l44 (hS : SK w) : (gA w 44).length = 9 := SK_len hS (a := 44) (n := 9) (by decide +kernel) (by decide)
theorem l45 (hS : SK w) : (gA w 45).length = 9 := SK_len hS (a := 45) (n := 9) (by decide +kernel) (by decide)
theorem lgD_s (hS : SK w) (hx : i1.toInt = d) (hd : d < 81) : lgD (aS w 43 i1 x) = updc (lgD w) d x := by
  funext q
  unfold lgD updc
  rw [gA_aS (SK_isA hS (by decide +kernel)), i_nat hx, getD_set (by rw [l43 hS]; exact hd)]
theorem aS44 (hS : SK w) (hx : i1.toInt = d) (hd : d < 9) (i : Nat) : (gA (aS w 44 i1 x) 44).getD i 0 = if i = d then x else (gA w 44).getD i 0 := by
  rw [gA_aS (SK_isA hS (by decide +kernel)), i_nat hx, getD_set (by rw [l44 hS]; exact hd)]
theorem aS45 (hS : SK w) (hx : i1.toInt = d) (hd : d < 9) (i : Nat) : (gA (aS w 45 i1 x) 45).getD i 0 = if i = d then x else (gA w 45).getD i 0 := by
  rw [gA_aS (SK_isA hS (by decide +kernel)), i_nat hx, getD_set (by rw [l45 hS]; exact hd)]
theorem F110 (hS : SK w) (h1 : p1.toInt = p) (hp : p < 9) (h : PS X k 110 0 [.ref 42, .int p1, pm_dead] [] w r w') : ((∃ (q : Nat) (z : Int32), r = some (.int z) ∧ z.toInt = q ∧ nxP (lgD w) p q) ∨ (r = some (.int (-1)) ∧ nxN (lgD w) p)) ∧ w' = w := by
  have e9 : (9 : Int32).toInt = 9 := nine32
  have lp : ∀ (k t : Nat) (i2 : Int32), i2.toInt = t → t ≤ 9 → (∀ q, q < t → (lgD w (9 * p + q)).toInt ≤ 0) → PS X k 110 2 [.ref 42, .int p1, .int i2] [] w r w' → ((∃ (q : Nat) (z : Int32), r = some (.int z) ∧ z.toInt = q ∧ nxP (lgD w) p q) ∨ (r = some (.int (-1)) ∧ nxN (lgD w) p)) ∧ w' = w := by
    intro k
    induction k with
    | zero => intro t i2 _ _ _ h; exact (PS_0 h).elim
    | succ k ih =>
      intro t i2 h2 ht hz h
      have h := U110_2 hS h
      by_cases c : 9 ≤ i2
      · rw [if_pos c] at h
        rw [Int32.le_iff_toInt_le, e9, h2] at c
        exact ⟨Or.inr ⟨h.1, fun q hq => hz q (by omega)⟩, h.2⟩
      · rw [if_neg c] at h
        rw [Int32.le_iff_toInt_le, e9, h2] at c
        obtain ⟨c1, hc1, h⟩ := use_z hS h (fun _ _ y => F52n hS h1 h2 hp (by omega) y)
        obtain ⟨_, h⟩ := h
        have v1 : aG w 43 c1 = lgD w (9 * p + t) := aG_n hc1
        rw [v1] at h
        by_cases d1 : lgD w (9 * p + t) ≤ 0
        · rw [if_pos d1] at h
          rw [Int32.le_iff_toInt_le, z32] at d1
          refine ih (t + 1) _ (by rw [zi_inc (n := 100) (by omega) (by omega), h2]; rfl) (by omega) (fun q hq => ?_) h
          by_cases e : q = t
          · rw [e]; exact d1
          · exact hz q (by omega)
        · rw [if_neg d1] at h
          rw [Int32.le_iff_toInt_le, z32] at d1
          exact ⟨Or.inl ⟨t, i2, h.1, h2, by omega, by omega, hz⟩, h.2⟩
  cases k with
  | zero => exact (PS_0 h).elim
  | succ k => exact lp k 0 0 z32 (Nat.zero_le _) (fun q hq => absurd hq (Nat.not_lt_zero q)) (U110_0 hS h)
theorem i_m1 (h : z.toInt = (q : Nat)) : z ≠ -1 := fun e => by rw [e, m1i] at h; omega
theorem F109 (hS : SK w) (h : PS X k 109 0 [.ref 42, pm_dead] [] w r w') : ((∃ (f : Nat) (z : Int32), r = some (.int z) ∧ z.toInt = f ∧ fsP (lgD w) f) ∨ (r = some (.int (-1)) ∧ fsN (lgD w))) ∧ w' = w := by
  have e9 : (9 : Int32).toInt = 9 := nine32
  have lp : ∀ (k t : Nat) (i1 : Int32), i1.toInt = t → t ≤ 9 → (∀ p q, p < t → q < 9 → (lgD w (9 * p + q)).toInt ≤ 0) → PS X k 109 2 [.ref 42, .int i1] [] w r w' → ((∃ (f : Nat) (z : Int32), r = some (.int z) ∧ z.toInt = f ∧ fsP (lgD w) f) ∨ (r = some (.int (-1)) ∧ fsN (lgD w))) ∧ w' = w := by
    intro k
    induction k with
    | zero => intro t i1 _ _ _ h; exact (PS_0 h).elim
    | succ k ih =>
      intro t i1 h1 ht hz h
      have h := U109_2 hS h
      by_cases c : 9 ≤ i1
      · rw [if_pos c] at h
        rw [Int32.le_iff_toInt_le, e9, h1] at c
        exact ⟨Or.inr ⟨h.1, fun p q hp hq => hz p q (by omega) hq⟩, h.2⟩
      · rw [if_neg c] at h
        rw [Int32.le_iff_toInt_le, e9, h1] at c
        obtain ⟨r1, w2, y, h⟩ := h
        obtain ⟨alt, e2⟩ := F110 hS h1 (by omega) y
        rw [e2] at h
        rcases alt with ⟨q, zq, b1, b2, b3⟩ | ⟨b1, b2⟩
        · have h := h _ b1 hS
          rw [if_neg (i_m1 b2)] at h
          exact ⟨Or.inl ⟨t, i1, h.1, h1, by omega, ⟨q, b3.1, b3.2.1⟩, fun p' q hp hq => hz p' q hp hq⟩, h.2⟩
        · have h := h _ b1 hS
          rw [if_pos rfl] at h
          refine ih (t + 1) _ (by rw [zi_inc (n := 100) (by omega) (by omega), h1]; rfl) (by omega) (fun p q hp hq => ?_) h
          by_cases e : p = t
          · rw [e]; exact b2 q hq
          · exact hz p q (by omega) hq
  cases k with
  | zero => exact (PS_0 h).elim
  | succ k => exact lp k 0 0 z32 (Nat.zero_le _) (fun p q hp => absurd hp (Nat.not_lt_zero p)) (U109_0 hS h)
theorem F112i (hS : SK w) (h : PS X k 112 0 [.ref 42, .int p1, .int p2, .int p3] [] w r w') : 0 ≤ p1.toInt := by
  cases k with
  | zero => exact (PS_0 h).elim
  | succ k => exact (U112_0 hS h).1.1
theorem F112 (hS : SK w) (h44 : ∀ i, i < m → ((gA w 44).getD i 0).toInt = e i) (h9 : ∀ i, i ≤ m → e i < 9) (hem : e m = e s) (hs : s < m) (h1 : p1.toInt = i) (hi : i < m) (h2 : p2.toInt = s) (h3 : p3.toInt = m) (hm : m ≤ 9) (h : PS X k 112 0 [.ref 42, .int p1, .int p2, .int p3] [] w r w') : ∃ z : Int32, z.toInt = (9 * e i + e (i + 1) : Nat) ∧ r = some (.int z) ∧ w' = w := by
  cases k with
  | zero => exact (PS_0 h).elim
  | succ k =>
    obtain ⟨_, h⟩ := U112_0 hS h
    have e1 : (p1 + 1).toInt = ((i + 1 : Nat) : Int) := by rw [zi_inc (n := 100) (by omega) (by omega), h1]; rfl
    have v1 : (aG w 44 p1).toInt = e i := by rw [aG_n h1]; exact h44 i hi
    by_cases c : p3 ≤ p1 + 1
    · rw [if_pos c] at h
      rw [Int32.le_iff_toInt_le, h3, e1] at c
      obtain ⟨_, h⟩ := h
      have v2 : (aG w 44 p2).toInt = e (i + 1) := by rw [aG_n h2, h44 s hs, show i + 1 = m by omega, hem]
      obtain ⟨zc, hz, h⟩ := use_z hS h (fun _ _ y => F52n hS v1 v2 (h9 i (by omega)) (h9 (i + 1) (by omega)) y)
      exact ⟨zc, hz, h⟩
    · rw [if_neg c] at h
      rw [Int32.le_iff_toInt_le, h3, e1] at c
      obtain ⟨_, h⟩ := h
      have v2 : (aG w 44 (p1 + 1)).toInt = e (i + 1) := by rw [aG_n e1]; exact h44 (i + 1) (by omega)
      obtain ⟨zc, hz, h⟩ := use_z hS h (fun _ _ y => F52n hS v1 v2 (h9 i (by omega)) (h9 (i + 1) (by omega)) y)
      exact ⟨zc, hz, h⟩
theorem F111_118 (h44 : ∀ i, i < m → ((gA w0 44).getD i 0).toInt = e i) (hW : WLK T f e m s) (hm : m ≤ 9) (h3 : i3.toInt = m) (h4 : i4.toInt = s) (hT : lgD w0 = T) : ∀ (k t : Nat) (w : pm_W) (i6 : Int32), FM [] [43] w0 w → i6.toInt = (s + t : Nat) → s + t ≤ m → lgD w = sbW T e s i5 t → PS X k 111 118 [.ref 42, .int i1, .int i2, .int i3, .int i4, .int i5, .int i6] [] w r w' → r = none ∧ FM [] [43] w0 w' ∧ lgD w' = sbW T e s i5 (m - s) := by
  obtain ⟨⟨a0, a1, a2, a3⟩, sm, em⟩ := id hW
  intro k
  induction k with
  | zero => intro t w i6 _ _ _ _ h; exact (PS_0 h).elim
  | succ k ih =>
    intro t w i6 fm h6 ht hl h
    have hS : SK w := fm.2.2.2
    have h := U111_118 hS h
    by_cases c : i3 ≤ i6
    · rw [if_pos c] at h
      rw [Int32.le_iff_toInt_le, h3, h6] at c
      rw [h.2]
      exact ⟨h.1, fm, by rw [hl, show t = m - s by omega]⟩
    · rw [if_neg c] at h
      rw [Int32.le_iff_toInt_le, h3, h6] at c
      obtain ⟨zc, hz, h⟩ := use_z hS h (fun _ _ y => F112 hS (fun i hi => by rw [FM_a fm (by decide)]; exact h44 i hi) a1 em sm h6 (by omega) h4 h3 hm y)
      obtain ⟨_, _, h⟩ := h
      have h := h _ rfl
      have n1 := a1 (s + t) (by omega)
      have n2 := a1 (s + t + 1) (by omega)
      refine ih (t + 1) _ _ (FM_trans fm (FM_aS hS (by decide))) (by rw [zi_inc (n := 100) (by omega) (by omega), h6]; rfl) (by omega) ?_ h
      rw [lgD_s hS hz (by omega), aG_n hz, hl]
      show updc (sbW T e s i5 t) (9 * e (s + t) + e (s + t + 1)) (lgD w (9 * e (s + t) + e (s + t + 1)) - i5) = _
      rw [hl]
      rfl
theorem F111_81 (hS : SK w) (h44 : ∀ i, i < m → ((gA w 44).getD i 0).toInt = e i) (hW : WLK T f e m s) (hm : m ≤ 9) (h3 : i3.toInt = m) (h4 : i4.toInt = s) (hT : lgD w = T) : ∀ (k t : Nat) (i5 i6 : Int32), i6.toInt = (s + t : Nat) → s + t ≤ m → i5 = mnW T e s t → PS X k 111 81 [.ref 42, .int i1, .int i2, .int i3, .int i4, .int i5, .int i6] [] w r w' → r = none ∧ FM [] [43] w w' ∧ TKO T f (lgD w') := by
  obtain ⟨⟨a0, a1, a2, a3⟩, sm, em⟩ := id hW
  intro k
  induction k with
  | zero => intro t i5 i6 _ _ _ h; exact (PS_0 h).elim
  | succ k ih =>
    intro t i5 i6 h6 ht h5 h
    have h := U111_81 hS h
    by_cases c : i3 ≤ i6
    · rw [if_pos c] at h
      rw [Int32.le_iff_toInt_le, h3, h6] at c
      obtain ⟨b1, b2, b3⟩ := F111_118 h44 hW hm h3 h4 hT k 0 w i4 (FM_refl hS) h4 (by omega) (by rw [hT]; rfl) h
      rw [h5, show t = m - s by omega] at b3
      exact ⟨b1, b2, e, m, s, hW, b3⟩
    · rw [if_neg c] at h
      rw [Int32.le_iff_toInt_le, h3, h6] at c
      obtain ⟨zc, hz, h⟩ := use_z hS h (fun _ _ y => F112 hS h44 a1 em sm h6 (by omega) h4 h3 hm y)
      obtain ⟨_, h⟩ := h
      refine ih (t + 1) _ _ (by rw [zi_inc (n := 100) (by omega) (by omega), h6]; rfl) (by omega) ?_ h
      have v : aG w 43 zc = T (wkC e s t) := by rw [aG_n hz, ← hT]; rfl
      rw [v, h5]
      rfl
theorem F111 (hS : SK w) (h1 : p1.toInt = f) (hf : f < 9) (h : PS X k 111 0 [.ref 42, .int p1, pm_dead, pm_dead, pm_dead, pm_dead, pm_dead] [] w r w') : r = none ∧ FM [] [43, 44, 45] w w' ∧ (TKO (lgD w) f (lgD w') ∨ (DED (lgD w) f ∧ lgD w' = lgD w)) := by
  have e9 : (9 : Int32).toInt = 9 := nine32
  have dead : ∀ (k : Nat) (wk : pm_W) (i3 : Int32), SK wk → PS X k 111 12 [.ref 42, .int p1, .int (-1), .int i3, pm_dead, pm_dead, pm_dead] [] wk r w' → r = none ∧ w' = wk := by
    intro k wk i3 S h
    cases k with
    | zero => exact (PS_0 h).elim
    | succ k =>
      have h := U111_12 S h
      by_cases c : 9 ≤ i3
      · rw [if_pos c, if_pos rfl] at h; exact h
      · rw [if_neg c, if_pos rfl, if_pos rfl] at h; exact h
  have lp : ∀ (k m : Nat) (wk : pm_W) (i2 i3 : Int32) (e : Nat → Nat), FM [] [44, 45] w wk → wkP (lgD w) f e m → i2.toInt = e m → i3.toInt = m → m ≤ 9 → (∀ i, i < m → ((gA wk 44).getD i 0).toInt = e i) → (∀ q, q < 9 → (∃ i, i < m ∧ e i = q ∧ ((gA wk 45).getD q 0).toInt = i) ∨ ((∀ i, i < m → e i ≠ q) ∧ (gA wk 45).getD q 0 = -1)) → PS X k 111 12 [.ref 42, .int p1, .int i2, .int i3, pm_dead, pm_dead, pm_dead] [] wk r w' → r = none ∧ FM [] [43, 44, 45] w w' ∧ (TKO (lgD w) f (lgD w') ∨ (DED (lgD w) f ∧ lgD w' = lgD w)) := by
    intro k
    induction k with
    | zero => intro m wk i2 i3 e _ _ _ _ _ _ _ h; exact (PS_0 h).elim
    | succ k ih =>
      intro m wk i2 i3 e fm hw h2 h3 hm h44 h45 h
      have S1 : SK wk := fm.2.2.2
      have lT : lgD wk = lgD w := by funext q; unfold lgD; rw [FM_a fm (by decide)]
      have e9m := hw.2.1 m (Nat.le_refl m)
      have n1 : i2 ≠ -1 := i_m1 h2
      have fin : ∀ (s : Nat), s < m → e m = e s → ∀ (k : Nat) (i4 : Int32), i4.toInt = s → PS X k 111 81 [.ref 42, .int p1, .int i2, .int i3, .int i4, .int 1000000, .int i4] [] wk r w' → r = none ∧ FM [] [43, 44, 45] w w' ∧ (TKO (lgD w) f (lgD w') ∨ (DED (lgD w) f ∧ lgD w' = lgD w)) := by
        intro s hs hes k i4 h4 hh
        obtain ⟨b1, b2, b3⟩ := F111_81 (T := lgD w) (f := f) S1 h44 ⟨hw, hs, hes⟩ hm h3 h4 lT k 0 1000000 i4 h4 (by omega) rfl hh
        exact ⟨b1, FM_trans (FM_mono fm (fun _ h => h) (by decide)) (FM_mono b2 (fun _ h => h) (by decide)), Or.inl b3⟩
      have h := U111_12 S1 h
      by_cases c : 9 ≤ i3
      · rw [if_pos c, if_neg n1] at h
        rw [Int32.le_iff_toInt_le, e9, h3] at c
        obtain ⟨_, h⟩ := h
        have vg : aG wk 45 i2 = (gA wk 45).getD (e m) 0 := aG_n h2
        rcases h45 (e m) e9m with ⟨i, hi, b1, b2⟩ | ⟨b1, b2⟩
        · exact fin i hi b1.symm _ _ (by rw [vg]; exact b2) h
        · rw [vg, b2] at h
          cases k with
          | zero => exact (PS_0 h).elim
          | succ k =>
            have h := U111_81 S1 h
            rw [if_neg (by rw [Int32.le_iff_toInt_le, h3, m1i]; omega)] at h
            obtain ⟨_, _, y, _⟩ := h
            have := F112i S1 y
            rw [m1i] at this
            omega
      · rw [if_neg c, if_neg n1] at h
        rw [Int32.le_iff_toInt_le, e9, h3] at c
        obtain ⟨_, h⟩ := h
        have vg : aG wk 45 i2 = (gA wk 45).getD (e m) 0 := aG_n h2
        rw [vg] at h
        rcases h45 (e m) e9m with ⟨i, hi, b1, b2⟩ | ⟨b1, b2⟩
        · rw [if_neg (i_m1 b2), if_neg n1] at h
          exact fin i hi b1.symm _ _ b2 h.2
        · rw [if_pos b2] at h
          obtain ⟨_, h⟩ := h
          obtain ⟨_, h⟩ := h _ rfl
          have h := h _ rfl
          have Sa : SK (aS wk 45 i2 i3) := SK_aS S1
          have f2 : FM [] [44, 45] wk (aS (aS wk 45 i2 i3) 44 i3 i2) := FM_trans (FM_aS S1 (by decide)) (FM_aS Sa (by decide))
          have Sb := f2.2.2.2
          have lTb : lgD (aS (aS wk 45 i2 i3) 44 i3 i2) = lgD w := by rw [← lT]; funext q; unfold lgD; rw [FM_a f2 (by decide)]
          obtain ⟨r3, w4, y, h⟩ := h
          obtain ⟨alt, e4⟩ := F110 Sb h2 e9m y
          rw [lTb] at alt
          rw [e4] at h
          have e1 : (i3 + 1).toInt = ((m + 1 : Nat) : Int) := by rw [zi_inc (n := 100) (by omega) (by omega), h3]; rfl
          rcases alt with ⟨q, zq, c1, c2, c3⟩ | ⟨c1, c2⟩
          · have h := h _ c1 Sb
            obtain ⟨e', g1, g2, g3⟩ := wkP_x hw b1 c3
            have a44 := fun i => aS44 (w := aS wk 45 i2 i3) (x := i2) Sa h3 (show m < 9 by omega) i
            have a45 := fun i => aS45 (x := i3) S1 h2 e9m i
            refine ih (m + 1) _ _ _ e' (FM_trans fm f2) g1 (by rw [c2, g2]) e1 (by omega) (fun i hi => ?_) (fun q' hq' => ?_) h
            · rw [a44 i, g3 i (by omega)]
              by_cases ei : i = m
              · rw [if_pos ei, ei]; exact h2
              · rw [if_neg ei, gA_aS_ne (by decide)]; exact h44 i (by omega)
            · rw [gA_aS_ne (by decide), a45 q']
              by_cases eq : q' = e m
              · rw [if_pos eq]
                exact Or.inl ⟨m, Nat.lt_succ_self m, by rw [g3 m (Nat.le_refl m), eq], h3⟩
              · rw [if_neg eq]
                rcases h45 q' hq' with ⟨i, d1, d2, d3⟩ | ⟨d1, d2⟩
                · exact Or.inl ⟨i, by omega, by rw [g3 i (by omega)]; exact d2, d3⟩
                · refine Or.inr ⟨fun i hi => ?_, d2⟩
                  rw [g3 i (by omega)]
                  by_cases ei : i = m
                  · rw [ei]; exact fun z => eq z.symm
                  · exact d1 i (by omega)
          · have h := h _ c1 Sb
            obtain ⟨d1, d2⟩ := dead _ _ _ Sb h
            rw [d2]
            exact ⟨d1, FM_mono (FM_trans fm f2) (fun _ h => h) (by decide), Or.inr ⟨⟨e, m, hw, b1, c2⟩, lTb⟩⟩
  cases k with
  | zero => exact (PS_0 h).elim
  | succ k =>
    obtain ⟨r1, w2, y, h⟩ := U111_0 hS h
    obtain ⟨a1, f2, _, a4⟩ := F20 hS (SK_isA hS (by decide +kernel)) (by rw [l45 hS]; decide) y
    have h := h a1 f2.2.2.2
    exact lp k 0 w2 p1 0 (fun _ => f) (FM_mono f2 (fun _ h => h) (by decide)) ⟨rfl, fun _ _ => hf, fun i hi => absurd hi (Nat.not_lt_zero i), fun i j _ hj => absurd hj (Nat.not_lt_zero j)⟩ h1 z32 (Nat.zero_le _) (fun i hi => absurd hi (Nat.not_lt_zero i)) (fun q hq => Or.inr ⟨fun i hi => absurd hi (Nat.not_lt_zero i), a4 q (by rw [l45 hS]; exact hq)⟩) h
theorem F108 (hS : SK w) (hP : (gI w (gR w 33 0) 0).toInt = P) (hP9 : P ≤ 9) (hD : OKD (dA w 33)) (h : PS X k 108 0 [.ref 42, .ref 33, pm_dead, pm_dead, pm_dead] [] w r w') : FM [] [43, 44, 45] w w' ∧ ((¬ lwS P 0 (dA w 33) ∧ r = some (.int (-1))) ∨ (lwS P 0 (dA w 33) ∧ ∃ (t : Nat) (D1 : Nat → Int32) (z : Int32), ITR stCk t (dA w 33) D1 ∧ (fsN D1 ∨ t = 81) ∧ r = some (.int z) ∧ z.toInt = t)) := by
  have lp : ∀ (k t : Nat) (wk : pm_W) (i2 i3 : Int32) (u4 : Value), FM [] [43, 44, 45] w wk → i2.toInt = t → i3.toInt = t → t ≤ 81 → ITR stCk t (dA w 33) (lgD wk) → PS X k 108 29 [.ref 42, .ref 33, .int i2, .int i3, u4] [] wk r w' → FM [] [43, 44, 45] w w' ∧ ∃ (t : Nat) (D1 : Nat → Int32) (z : Int32), ITR stCk t (dA w 33) D1 ∧ (fsN D1 ∨ t = 81) ∧ r = some (.int z) ∧ z.toInt = t := by
    intro k
    induction k with
    | zero => intro t wk i2 i3 u4 _ _ _ _ _ h; exact (PS_0 h).elim
    | succ k ih =>
      intro t wk i2 i3 u4 fm h2 h3 ht hI h
      have S1 : SK wk := fm.2.2.2
      have h := U108_29 S1 h
      by_cases c : 81 ≤ i3
      · rw [if_pos c] at h
        rw [Int32.le_iff_toInt_le, e81i, h3] at c
        rw [h.2]
        exact ⟨fm, t, _, i2, hI, Or.inr (by omega), h.1, h2⟩
      · rw [if_neg c] at h
        rw [Int32.le_iff_toInt_le, e81i, h3] at c
        obtain ⟨r1, w2, y, h⟩ := h
        obtain ⟨alt, e2⟩ := F109 S1 y
        rw [e2] at h
        rcases alt with ⟨f, zf, b1, b2, b3⟩ | ⟨b1, b2⟩
        · have h := h _ b1 S1
          rw [if_neg (i_m1 b2)] at h
          obtain ⟨r4, w5, y4, h⟩ := h
          obtain ⟨d1, f5, d2⟩ := F111 S1 b2 b3.1 y4
          have h := h d1 f5.2.2.2
          exact ih (t + 1) w5 _ _ _ (FM_trans fm f5) (by rw [zi_inc (n := 100) (by omega) (by omega), h2]; rfl) (by rw [zi_inc (n := 100) (by omega) (by omega), h3]; rfl) (by omega) ⟨_, hI, f, b3, d2⟩ h
        · have h := h _ b1 S1
          rw [if_pos rfl] at h
          rw [h.2]
          exact ⟨fm, t, _, i2, hI, Or.inl b2, h.1, h2⟩
  cases k with
  | zero => exact (PS_0 h).elim
  | succ k =>
    obtain ⟨r1, w2, y, h⟩ := U108_0 hS h
    have y93 : w2 = w ∧ ((lwS P 0 (dA w 33) ∧ r1 = some (.int 1)) ∨ (¬ lwS P 0 (dA w 33) ∧ r1 = some (.int 0))) := by
      cases k with
      | zero => exact (PS_0 y).elim
      | succ k => exact F93_2 hS (by decide +kernel) hP hP9 hD k 0 0 z32 (Nat.zero_le _) (fun j hj => absurd hj (Nat.not_lt_zero j)) (U93_0 hS y)
    obtain ⟨e2, alt⟩ := y93
    rw [e2] at h
    rcases alt with ⟨b1, b2⟩ | ⟨b1, b2⟩
    · have h := h _ b2 hS
      rw [if_neg (by decide +kernel), (okS_r hS (a := 33) (by decide +kernel)).1] at h
      obtain ⟨hc, h⟩ := h
      have h := h _ rfl
      have f4 : FM [] [43, 44, 45] w (cpS w (33 + 6) 43 0 0 81) := FM_cpS hc hS (by decide)
      have A4 := cpS_A hc (SK_isA hS (by decide +kernel))
      have l39 : (gA w (33 + 6)).length = 81 := (okS_r hS (a := 33) (by decide +kernel)).2.2.2.2.2.2.2.2.1
      obtain ⟨g1, g2⟩ := lp k 0 _ 0 0 _ f4 z32 z32 (Nat.zero_le _) (by
        show lgD (cpS w (33 + 6) 43 0 0 81) = dA w 33
        funext q
        unfold lgD dA
        rw [A4, z32, e81i]
        by_cases c : q < 81
        · rw [cpy_getF (by rw [l39]; decide) (by rw [l43 hS]; decide), if_pos (by omega)]
          show (gA w (33 + 6)).getD (0 + (q - 0)) 0 = _
          rw [show 0 + (q - 0) = q by omega]
        · rw [cpy_getF (by rw [l39]; decide) (by rw [l43 hS]; decide), if_neg (by omega)]
          rw [List.getD_eq_getElem?_getD, List.getElem?_eq_none (by rw [l43 hS]; omega), List.getD_eq_getElem?_getD, List.getElem?_eq_none (by rw [l39]; omega)]) h
      exact ⟨g1, Or.inr ⟨b1, g2⟩⟩
    · have h := h _ b2 hS
      rw [if_pos rfl] at h
      rw [h.2]
      exact ⟨FM_refl hS, Or.inl ⟨b1, h.1⟩⟩
end KDA
