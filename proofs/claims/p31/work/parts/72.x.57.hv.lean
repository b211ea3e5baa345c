/-! ===== take ===== -/
section HVT
variable {X : pm_X} {k k2 : Nat} {w0 w w1 w2 w3 w4 w' : pm_W} {r r2 q1 q2 : Option Value} {p p1 p2 p3 p4 p5 p6 i1 i2 i3 sl x y z z1 z2 : Int32} {n i v j m u u2 P t s a b Q B rr len o3 N K S : Nat} {V V' D E G G1 G2 : Nat → Int32} {s0 s1 s2 t1 t2 : SN} {c d f g : Nat → Bool}
theorem zi_div (hx : x.toInt = a) (hy : y.toInt = b) : (x / y).toInt = (a / b : Nat) := by
  have h1 := x.toInt_lt
  rw [Int32.toInt_div, hx, hy, show Int.tdiv (a : Int) b = ((a / b : Nat) : Int) from rfl]
  have : a / b ≤ a := Nat.div_le_self a b
  generalize a / b = q at this ⊢
  exact Int.bmod_eq_of_le (by omega) (by omega)
theorem zi_rem (hx : x.toInt = a) (hy : y.toInt = b) : (x - x / y * y).toInt = (a % b : Nat) := by
  have h1 := x.toInt_lt
  have hd := zi_div hx hy
  have hm : a / b * b ≤ a := Nat.div_mul_le_self a b
  have e : ((a / b : Nat) : Int) * (b : Int) = ((a / b * b : Nat) : Int) := (Int.natCast_mul _ _).symm
  have q := Nat.div_add_mod a b
  rw [Nat.mul_comm] at q
  rw [Int32.toInt_sub, Int32.toInt_mul, hd, hx, hy, e]
  generalize a / b * b = c at hm q ⊢
  generalize a % b = d at q ⊢
  rw [Int.bmod_eq_of_le (n := ((c : Nat) : Int)) (by omega) (by omega), Int.bmod_eq_of_le (by omega) (by omega)]
  omega
/-- a number's figures, the last first -/
def fgV (n : Nat) : Nat → Nat
  | 0 => n
  | t + 1 => fgV n t / 10
def fgD (n t : Nat) : Nat := fgV n t % 10
theorem dgD_9 : fgD n t ≤ 9 := by unfold fgD; omega
def fgM (n : Nat) (t b : Nat) : Bool := anN (fun s => decide (fgD n s = b)) t
theorem fgM_t : ∀ t, fgM n t b = true ↔ ∃ s, s < t ∧ fgD n s = b
  | 0 => ⟨fun h => Bool.noConfusion h, fun ⟨s, h, _⟩ => absurd h (Nat.not_lt_zero s)⟩
  | t + 1 => by
    have ih := fgM_t t
    show (fgM n t b || decide (fgD n t = b)) = true ↔ _
    rw [Bool.or_eq_true, ih, decide_eq_true_iff]
    constructor
    · rintro (⟨s, h1, h2⟩ | h)
      · exact ⟨s, by omega, h2⟩
      · exact ⟨t, by omega, h⟩
    · rintro ⟨s, h1, h2⟩
      by_cases e : s = t
      · rw [e] at h2; exact Or.inr h2
      · exact Or.inl ⟨s, by omega, h2⟩
/-- so many figures, each a person, none twice, nothing left -/
def FGo (P n t : Nat) : Prop := ∀ s, s < t → fgD n s < P ∧ ∀ s', s' < s → fgD n s' ≠ fgD n s
def FIG (P m n : Nat) : Prop := FGo P n m ∧ fgV n m = 0
def digE (n m q : Nat) : Int32 := Int32.ofNat (fgD n (m - 1 - (q - 3)))
theorem digE_i (h : j < m) : (digE n m (3 + j)).toInt = (fgD n (m - 1 - j) : Nat) := by
  unfold digE
  rw [show 3 + j - 3 = j by omega, Int32.toInt_ofNat_of_lt (by have := dgD_9 (n := n) (t := m - 1 - j); omega)]
theorem F89m (hS : SK w) (hx : MSK p1 B c) (hy : p2.toInt = b) (hb : b < B) (hB : B ≤ 32) (h : PS X k 89 0 [.int p1, .int p2] [] w r w') : r = some (.int (b2i (c b))) ∧ w' = w := by
  cases k with
  | zero => exact (PS_0 h).elim
  | succ k =>
    have h := U89_0 hS h
    by_cases q : ((p1 >>> (p2 &&& 31)) &&& 1) = 0
    · rw [if_pos q] at h
      rw [(MSK_f hx hy hb hB).mp q]
      exact h
    · rw [if_neg q] at h
      have e : c b = true := by
        cases hh : c b with
        | true => rfl
        | false => exact absurd ((MSK_f hx hy hb hB).mpr hh) q
      rw [e]
      exact h
theorem dg_no (h : FGo P n t) (ht : t < m) (hn : ¬ (fgD n t < P ∧ ∀ s', s' < t → fgD n s' ≠ fgD n t)) : ¬ FIG P m n := fun f => hn (f.1 t ht)
theorem FGo_s (h : FGo P n t) (h1 : fgD n t < P) (h2 : fgM n t (fgD n t) = false) : FGo P n (t + 1) := by
  intro s hs
  by_cases e : s = t
  · subst e
    refine ⟨h1, fun s' hs' e => ?_⟩
    have q := fgM_t (n := n) (b := fgD n s) s
    rw [h2] at q
    exact Bool.noConfusion (q.mpr ⟨s', hs', e⟩)
  · exact h s (by omega)
theorem dg_mem (h : fgM n t (fgD n t) = true) : ¬ (fgD n t < P ∧ ∀ s', s' < t → fgD n s' ≠ fgD n t) := by
  obtain ⟨s, h1, h2⟩ := (fgM_t t).mp h
  exact fun f => f.2 s h1 h2
theorem MSK_dg (h : MSK x 9 (fgM n t)) (hy : y.toInt = (fgD n t : Nat)) (hd : fgD n t < 9) : MSK (x ||| (1 <<< (y &&& 31))) 9 (fgM n (t + 1)) := by
  refine MSK_cg (MSK_ob h hy hd (by decide)) (fun b _ => ?_)
  show (fgM n t b || decide (fgD n t = b)) = (fgM n t b || decide (b = fgD n t))
  by_cases e : b = fgD n t
  · rw [decide_eq_true e, decide_eq_true e.symm]
  · rw [decide_eq_false e, decide_eq_false (fun z => e z.symm)]
/-- the class's figures -/
theorem F154_16 (hP9 : P ≤ 9) (hv : gR w0 33 0 = v) (hP : (gI w0 v 0).toInt = P) (hm : m ≤ 6) : ∀ (k t : Nat) (w : pm_W) (i3 i4 i5 : Int32) (u6 : Value), FM [] [86] w0 w → i5.toInt = (m : Int) - 1 - t → t ≤ m → i3.toInt = (fgV n t : Nat) → MSK i4 9 (fgM n t) → FGo P n t → (∀ s, s < t → (gA w 86).getD (m - 1 - s) 0 = Int32.ofNat (fgD n s)) → PS X k 154 16 [.ref 0, .int i1, .int i2, .int i3, .int i4, .int i5, u6] [] w r w' → FM [] [86] w0 w' ∧ ((FIG P m n ∧ r = some (.int 1) ∧ ∀ s, s < m → (gA w' 86).getD (m - 1 - s) 0 = Int32.ofNat (fgD n s)) ∨ (¬ FIG P m n ∧ r = some (.int 0))) := by
  intro k
  induction k with
  | zero => intro t w i3 i4 i5 u6 _ _ _ _ _ _ _ h; exact (PS_0 h).elim
  | succ k ih =>
    intro t w i3 i4 i5 u6 fm h5 ht h3 h4 hF hA h
    have hS : SK w := fm.2.2.2
    have h := U154_16 hS h
    by_cases c : i5 < 0
    · rw [if_pos c] at h
      rw [Int32.lt_iff_toInt_lt, z32, h5] at c
      have e : t = m := by omega
      rw [e] at hF hA h3
      by_cases c2 : i3 = 0
      · rw [if_pos c2] at h
        rw [c2, z32] at h3
        rw [h.2]
        exact ⟨fm, Or.inl ⟨⟨hF, by omega⟩, h.1, hA⟩⟩
      · rw [if_neg c2] at h
        rw [h.2]
        exact ⟨fm, Or.inr ⟨fun f => c2 (Int32.toInt_inj.mp (by rw [h3, f.2, z32]; rfl)), h.1⟩⟩
    · rw [if_neg c] at h
      rw [Int32.lt_iff_toInt_lt, z32, h5] at c
      have htm : t < m := by omega
      have g0 : gR w 33 0 = v := by rw [FM_r fm (by simp)]; exact hv
      have gP : (gI w v 0).toInt = P := by rw [FM_i fm (by simp)]; exact hP
      rw [g0] at h
      have ed : (i3 - i3 / 10 * 10).toInt = (fgD n t : Nat) := zi_rem h3 (b := 10) ten32
      have ev : (i3 / 10).toInt = (fgV n (t + 1) : Nat) := zi_div h3 (b := 10) ten32
      have h := use_p hS h (fun _ _ y => F61 hS gP y)
      by_cases d : 0 ≤ (i3 - i3 / 10 * 10).toInt ∧ (i3 - i3 / 10 * 10).toInt < P
      · have h := ifb_t d h
        rw [ed] at d
        have h := use_p hS h (fun _ _ y => F89m hS h4 ed (by omega) (by decide) y)
        cases hm2 : fgM n t (fgD n t) with
        | true =>
          rw [hm2, if_neg (by decide +kernel)] at h
          rw [h.2]
          exact ⟨fm, Or.inr ⟨dg_no hF htm (dg_mem hm2), h.1⟩⟩
        | false =>
          rw [hm2, if_pos (by decide +kernel)] at h
          obtain ⟨_, h⟩ := h
          have h := h _ rfl
          have f1 : FM [] [86] w (aS w 86 i5 (i3 - i3 / 10 * 10)) := FM_aS hS (by decide)
          have hj : i5.toInt = (m - 1 - t : Nat) := by omega
          refine ih (t + 1) _ _ _ _ _ (FM_trans fm f1) (by rw [zi_add h5 (show (-1 : Int32).toInt = -1 by decide +kernel) (by omega) (by omega)]; omega) (by omega) ev (MSK_dg h4 ed (by omega)) (FGo_s hF (by omega) hm2) (fun s hs => ?_) h
          rw [gA_aS (SK_isA hS (by decide +kernel)), i_nat hj, getD_set (by rw [SK_len hS (a := 86) (n := 6) (by decide +kernel) (by decide)]; omega)]
          by_cases e : s = t
          · rw [e, if_pos rfl]
            exact i32_of ed (by have := dgD_9 (n := n) (t := t); omega)
          · rw [if_neg (by omega)]
            exact hA s (by omega)
      · have h := ifb_f d h
        rw [ed] at d
        rw [h.2]
        exact ⟨fm, Or.inr ⟨dg_no hF htm (fun f => d ⟨by omega, by omega⟩), h.1⟩⟩
/-- the reference: has each room -/
theorem F269_6 (hS : SK w) (hu : u ≤ 1) (hp : p1.toInt = (610 + 132 * u : Nat)) (hm2 : 2 ≤ m) (hm6 : m ≤ 6) (h2 : p2.toInt = m) (hE : ∀ j, j < m → (gA w 158).getD j 0 = E (3 + j)) (hr : ∀ t, t < m → 0 ≤ (E (3 + t)).toInt ∧ (E (3 + t)).toInt ≤ 8) (hP : ∀ j, j < m → eWho E j < P) : ∀ (k t : Nat) (i4 i5 : Int32), i5.toInt = t → t ≤ m → ((i4 = 1 ∧ ∀ i, i < t → fitO P (fun k => al w (610 + 132 * u + k)) (dR w) E m p3 i) ∨ (i4 = 0 ∧ ¬ fitS P (fun k => al w (610 + 132 * u + k)) (dR w) E m p3)) → PS X k 269 6 [.ref 147, .int p1, .int p2, .int p3, .int i4, .int i5] [] w r w' → w' = w ∧ ((fitS P (fun k => al w (610 + 132 * u + k)) (dR w) E m p3 ∧ r = some (.int 1)) ∨ (¬ fitS P (fun k => al w (610 + 132 * u + k)) (dR w) E m p3 ∧ r = some (.int 0))) := by
  intro k
  induction k with
  | zero => intro t i4 i5 _ _ _ h; exact (PS_0 h).elim
  | succ k ih =>
    intro t i4 i5 h5 ht hf h
    have h := U269_6 hS h
    by_cases c : p2 ≤ i5
    · rw [if_pos c] at h
      rw [Int32.le_iff_toInt_le, h2, h5] at c
      rcases hf with ⟨e, f⟩ | ⟨e, f⟩
      · rw [e] at h
        exact ⟨h.2, Or.inl ⟨fun i hi => f i (by omega), h.1⟩⟩
      · rw [e] at h
        exact ⟨h.2, Or.inr ⟨f, h.1⟩⟩
    · rw [if_neg c] at h
      rw [Int32.le_iff_toInt_le, h2, h5] at c
      rcases hf with ⟨e, f⟩ | ⟨e, f⟩
      · rw [e, if_neg (by decide +kernel)] at h
        obtain ⟨_, _, h⟩ := h
        have htm : t < m := by omega
        obtain ⟨w1, w9⟩ := E_who hr htm
        have n9 := E_nx hr htm
        have i51 : (i5 + 1).toInt = (t + 1 : Nat) := by rw [zi_inc (n := 10) (by omega) (by omega), h5]; rfl
        have ei : aG w 158 i5 = E (3 + t) := by rw [aG_n (m := t) h5]; exact hE t htm
        have en : (aG w 158 ((i5 + 1) - (i5 + 1) / p2 * p2)).toInt = (eNx E m t : Nat) := by
          rw [aG_n (m := (t + 1) % m) (zi_rem i51 h2), hE _ (Nat.mod_lt _ (by omega))]
          unfold eNx
          by_cases e2 : t + 1 < m
          · rw [if_pos e2, Nat.mod_eq_of_lt e2]
            exact (E_who hr e2).1
          · rw [if_neg e2, show t + 1 = m by omega, Nat.mod_self]
            exact (E_who hr (by omega)).1
        have nP : eNx E m t < P := by
          unfold eNx
          by_cases e2 : t + 1 < m
          · rw [if_pos e2]; exact hP _ e2
          · rw [if_neg e2]; exact hP _ (by omega)
        have h := use_p hS h (fun _ _ y => F231n hS hp hu (by rw [ei]; exact w1) en w9 n9 y)
        by_cases c2 : rmI (fun k => al w (610 + 132 * u + k)) (dR w) (eWho E t) (eNx E m t) < p3
        · rw [if_pos c2] at h
          rw [Int32.lt_iff_toInt_lt] at c2
          exact ih (t + 1) 0 _ i51 (by omega) (Or.inr ⟨rfl, fun q => by have := (q t htm).2.2; omega⟩) h
        · rw [if_neg c2] at h
          rw [Int32.lt_iff_toInt_lt] at c2
          refine ih (t + 1) 1 _ i51 (by omega) (Or.inl ⟨rfl, fun i hi => ?_⟩) h
          by_cases e2 : i = t
          · rw [e2]
            exact ⟨hP t htm, nP, by omega⟩
          · exact f i (by omega)
      · rw [e, if_pos rfl] at h
        exact ⟨h.2, Or.inr ⟨f, h.1⟩⟩
/-- the reference's figures -/
theorem F314_59 (hu : u ≤ 1) (hp : p4.toInt = (610 + 132 * u : Nat)) (hP9 : P ≤ 9) (hP : (al w0 (610 + 132 * u)).toInt = P) (hm2 : 2 ≤ m) (hm : m ≤ 6) (h4 : i2.toInt = m) : ∀ (k t : Nat) (w : pm_W) (i8 i9 i10 : Int32), FM [] [158] w0 w → i10.toInt = (m : Int) - 1 - t → t ≤ m → i8.toInt = (fgV n t : Nat) → MSK i9 9 (fgM n t) → FGo P n t → (∀ s, s < t → (gA w 158).getD (m - 1 - s) 0 = Int32.ofNat (fgD n s)) → PS X k 314 59 [.ref 147, .int p1, .int p2, .int p3, .int i2, .int p5, .int p6, .int p4, .int i8, .int i9, .int i10] [] w r w' → (FIG P m n ∧ ((fitS P (fun k => al w0 (610 + 132 * u + k)) (dR w0) (digE n m) m p6 ∧ r = some (.int 1)) ∨ (¬ fitS P (fun k => al w0 (610 + 132 * u + k)) (dR w0) (digE n m) m p6 ∧ r = some (.int 0)))) ∨ (¬ FIG P m n ∧ r = some (.int (-1))) := by
  intro k
  induction k with
  | zero => intro t w i8 i9 i10 _ _ _ _ _ _ _ h; exact (PS_0 h).elim
  | succ k ih =>
    intro t w i8 i9 i10 fm h10 ht h8 h9 hF hA h
    have hS : SK w := fm.2.2.2
    have h := U314_59 hS h
    have ea : al w = al w0 := by funext q; unfold al; rw [FM_a fm (by simp)]
    have eD : dR w = dR w0 := by funext q; unfold dR; rw [FM_a fm (by simp)]
    by_cases c : i10 < 0
    · rw [if_pos c] at h
      rw [Int32.lt_iff_toInt_lt, z32, h10] at c
      have e : t = m := by omega
      rw [e] at hF hA h8
      by_cases c2 : i8 ≤ 0
      · rw [if_pos c2] at h
        rw [Int32.le_iff_toInt_le, z32, h8] at c2
        obtain ⟨q1, w2, y, h5⟩ := h
        have hfig : FIG P m n := ⟨hF, by omega⟩
        have hE : ∀ j, j < m → (gA w 158).getD j 0 = digE n m (3 + j) := by
          intro j hj
          have q := hA (m - 1 - j) (by omega)
          rw [show m - 1 - (m - 1 - j) = j by omega] at q
          rw [q]
          unfold digE
          rw [show 3 + j - 3 = j by omega]
        have hd : ∀ j, j < m → fgD n (m - 1 - j) < P := fun j hj => (hF _ (by omega)).1
        cases k with
        | zero => exact (PS_0 y).elim
        | succ k =>
          obtain ⟨z1, z2⟩ := F269_6 (P := P) hS hu hp hm2 hm h4 hE (fun j hj => by rw [digE_i hj]; have := hd j hj; omega) (fun j hj => by unfold eWho; rw [digE_i hj]; have := hd j hj; omega) _ 0 1 0 z32 (Nat.zero_le _) (Or.inl ⟨rfl, fun i hi => absurd hi (Nat.not_lt_zero i)⟩) (U269_0 hS y)
          rw [ea, eD] at z2
          refine Or.inl ⟨hfig, ?_⟩
          rcases z2 with ⟨x1, x2⟩ | ⟨x1, x2⟩
          · have h := h5 _ x2 (by rw [z1]; exact hS)
            rw [if_neg (by decide +kernel)] at h
            exact Or.inl ⟨x1, h.1⟩
          · have h := h5 _ x2 (by rw [z1]; exact hS)
            rw [if_pos rfl] at h
            exact Or.inr ⟨x1, h.1⟩
      · rw [if_neg c2] at h
        rw [Int32.le_iff_toInt_le, z32, h8] at c2
        exact Or.inr ⟨fun f => by have := f.2; omega, h.1⟩
    · rw [if_neg c] at h
      rw [Int32.lt_iff_toInt_lt, z32, h10] at c
      have htm : t < m := by omega
      obtain ⟨_, h⟩ := h
      have h := h _ rfl
      have f1 : FM [] [158] w (aS w 158 i10 (i8 - i8 / 10 * 10)) := FM_aS hS (by decide)
      have S1 := f1.2.2.2
      have hj : i10.toInt = (m - 1 - t : Nat) := by omega
      have ed : (i8 - i8 / 10 * 10).toInt = (fgD n t : Nat) := zi_rem h8 (b := 10) ten32
      have ev : (i8 / 10).toInt = (fgV n (t + 1) : Nat) := zi_div h8 (b := 10) ten32
      have gw : ∀ q, (gA (aS w 158 i10 (i8 - i8 / 10 * 10)) 158).getD q 0 = if q = m - 1 - t then i8 - i8 / 10 * 10 else (gA w 158).getD q 0 := by
        intro q
        rw [gA_aS (SK_isA hS (by decide +kernel)), i_nat hj, getD_set (by rw [SK_len hS (a := 158) (n := 6) (by decide +kernel) (by decide)]; omega)]
      have eg : aG (aS w 158 i10 (i8 - i8 / 10 * 10)) 158 i10 = i8 - i8 / 10 * 10 := by
        rw [aG_n (m := m - 1 - t) hj, gw, if_pos rfl]
      obtain ⟨_, h⟩ := h
      rw [eg] at h
      have e1 : al (aS w 158 i10 (i8 - i8 / 10 * 10)) = al w0 := by rw [al_FM f1 (by decide), ea]
      have h := use_p S1 h (fun _ _ y => F221n S1 hp (by rw [e1]; exact hP) (by omega) y)
      by_cases d : 0 ≤ (i8 - i8 / 10 * 10).toInt ∧ (i8 - i8 / 10 * 10).toInt < P
      · have h := ifb_t d h
        rw [ed] at d
        obtain ⟨_, h⟩ := h
        have tb : ((i9 >>> ((i8 - i8 / 10 * 10) &&& 31)) &&& 1) = 1 ↔ fgM n t (fgD n t) = true := MSK_t h9 ed (by omega) (by decide)
        by_cases c3 : ((i9 >>> ((i8 - i8 / 10 * 10) &&& 31)) &&& 1) = 1
        · rw [if_pos (by rw [eg]; exact c3)] at h
          exact Or.inr ⟨dg_no hF htm (dg_mem (tb.mp c3)), h.1⟩
        · rw [if_neg (by rw [eg]; exact c3)] at h
          obtain ⟨_, h⟩ := h
          rw [eg] at h
          have hm2' : fgM n t (fgD n t) = false := by
            cases hh : fgM n t (fgD n t) with
            | false => rfl
            | true => exact absurd (tb.mpr hh) c3
          refine ih (t + 1) _ _ _ _ (FM_trans fm f1) (by rw [zi_add h10 (show (-1 : Int32).toInt = -1 by decide +kernel) (by omega) (by omega)]; omega) (by omega) ev (MSK_dg h9 ed (by omega)) (FGo_s hF (by omega) hm2') (fun s hs => ?_) h
          rw [gw]
          by_cases e : s = t
          · rw [e, if_pos rfl]
            exact i32_of ed (by have := dgD_9 (n := n) (t := t); omega)
          · rw [if_neg (by omega)]
            exact hA s (by omega)
      · have h := ifb_f d h
        rw [ed] at d
        exact Or.inr ⟨dg_no hF htm (fun f => d ⟨by omega, by omega⟩), h.1⟩
end HVT
