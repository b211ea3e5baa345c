/-! ===== one by one: what it leaves, want by want; the class ===== -/
section JWA
variable {X : pm_X} {k k2 : Nat} {w0 w w1 w2 w3 w4 w5 wj w' : pm_W} {r r2 q0 q1 q2 : Option Value} {p1 p2 p3 p4 p5 p i1 i2 i3 i4 i5 i6 i7 i8 z z1 z2 so x n : Int32} {i v j m c u P t s b d q κ N s' : Nat} {y : Int} {E E' : Nat → Nat} {a D D' D0 e e' fee F : Nat → Int32} {fs : List (Nat × Nat)} {as : List Nat} {u5 u6 : Value}
/-- the village's cells, in the class's world -/
def VOK (a : Nat → Int32) (u : Nat) (w : pm_W) : Prop := SK w ∧ u ≤ 1 ∧ gI w (5 + 5 * u) 0 = a (610 + 132 * u) ∧ gI w (5 + 5 * u) 2 = a (611 + 132 * u) ∧ (∀ q, q < 81 → (gA w (6 + 5 * u)).getD q 0 = a (613 + 132 * u + q)) ∧ (∀ q, q < 9 → (gA w (7 + 5 * u)).getD q 0 = a (694 + 132 * u + q)) ∧ (∀ q, q < 9 → (gA w (8 + 5 * u)).getD q 0 = a (703 + 132 * u + q)) ∧ ∀ q, q < 28 → (gA w (9 + 5 * u)).getD q 0 = a (712 + 132 * u + q)
theorem VOK_fm (h : VOK a u w) (f : FM fs as w w') (h1 : ∀ q, q ∈ fs → 15 ≤ q.1) (h2 : ∀ q, q ∈ as → 15 ≤ q) : VOK a u w' := by
  obtain ⟨g0, g1, g2, g3, g4, g5, g6, g7⟩ := h
  have n1 : ∀ q c, q < 15 → (q, c) ∉ fs := fun q c hq hm => by
    have := h1 _ hm
    have : 15 ≤ q := this
    omega
  have n2 : ∀ q, q < 15 → q ∉ as := fun q hq hm => by have := h2 _ hm; omega
  refine ⟨f.2.2.2, g1, by rw [FM_i f (n1 _ 0 (by omega))]; exact g2, by rw [FM_i f (n1 _ 2 (by omega))]; exact g3, fun q hq => ?_, fun q hq => ?_, fun q hq => ?_, fun q hq => ?_⟩
  · rw [FM_a f (n2 _ (by omega))]; exact g4 q hq
  · rw [FM_a f (n2 _ (by omega))]; exact g5 q hq
  · rw [FM_a f (n2 _ (by omega))]; exact g6 q hq
  · rw [FM_a f (n2 _ (by omega))]; exact g7 q hq
theorem VOK_vcl (h : VOK a u w) (hq : q < 81) : vcl w (5 + 5 * u) (3 + q) = Vof a u (3 + q) := by
  obtain ⟨g0, g1, _, _, g4, _⟩ := h
  obtain ⟨_, _, _, f3, _⟩ := VG g0 (okV_n g1)
  rw [← f3 q hq, show 5 + 5 * u + 1 = 6 + 5 * u by omega, g4 q hq]
  show a _ = a _
  rw [show 613 + 132 * u + q = 610 + 132 * u + (3 + q) by omega]
theorem VOK_0 (h3 : RL3 w) (hu : u < (al w 0).toInt.toNat) : VOK (al w) u w := by
  obtain ⟨u1, g0, g1, _, g3, g4, g5, g6⟩ := VT h3.1.1 h3.1.2.1 hu
  exact ⟨h3.1.1, u1, g0, g1, g3, g4, g5, g6⟩
theorem F65g (hK : VOK a u w) (h4 : p4.toInt = κ) (hκ : κ < 7) (hc : p.toInt = c) (hc4 : c < 4) (h : PS X k 65 0 [.ref (5 + 5 * u), .int p4, .int p] [] w r w') : r = some (.int (wtP a u κ c)) ∧ w' = w := by
  obtain ⟨g0, g1, _, _, _, _, _, g7⟩ := hK
  obtain ⟨_, _, _, v6⟩ := VR g0 g1
  obtain ⟨h1, h2⟩ := F65 g0 v6 h
  refine ⟨?_, h2⟩
  rw [h1, aG_n (m := 4 * κ + c) (by rw [zi_add (zi_mul h4 four32 (by omega) (by omega)) hc (by omega) (by omega)]; omega), g7 _ (by omega)]
  unfold wtP
  rw [show 712 + 132 * u + (4 * κ + c) = 712 + 132 * u + 4 * κ + c by omega]
/-- the rings for a want, by the debts D -/
abbrev RVo (a : Nat → Int32) (u : Nat) (D : Nat → Int32) (κ : Nat) : Nat → Nat → Prop := VRg (fun i j => (rmI (Vof a u) D i j).toInt) (Pof a u) (wNf a u κ) (wAf a u κ) (wBf a u κ)
/-- the class's search for a want -/
theorem F133g (hK : VOK a u w4) (hV : VAa a) (hu : u < (a 0).toInt.toNat) (h0 : gR w4 33 0 = 5 + 5 * u) (hd : dA w4 33 = D) (h4 : p4.toInt = κ) (hκ : κ < Wof a u) (h : PS X k 133 0 [.ref 55, .ref 33, .int p4, .int p5] [] w4 r w') : FM slF [65, 66, 67] w4 w' ∧ SBw w' (Pof a u) p5 (feF a u) (rkF a u) (wAf a u κ) (wBf a u κ) (RVo a u D κ) ∧ (((gI w' 55 6).toInt = 0 ∧ r = some (.int 0)) ∨ (0 < (gI w' 55 6).toInt ∧ r = some (.int 1))) := by
  obtain ⟨S4, u1, k0, k1, k2, k3, k4, k5⟩ := id hK
  have e9 : (9 : Int32).toInt = 9 := nine32
  obtain ⟨v1, v1', v3, v2, v4⟩ := VA_v hV hu
  obtain ⟨x1, x2, x3⟩ := VA_w hV hu
  obtain ⟨fb, rb⟩ := VA_f hV hu
  obtain ⟨_, r4, r5, r6⟩ := VR S4 u1
  obtain ⟨y0, y0', y1, y1', y01, y2, y2', _⟩ := x3 κ hκ
  cases k with
  | zero => exact (PS_0 h).elim
  | succ k =>
    obtain ⟨hc, h⟩ := U133_0 S4 h
    rw [h0, r4] at hc h
    obtain ⟨q2, w3, y3, h⟩ := h _ rfl
    have fc : FM [] [65] w4 (cpS w4 (7 + 5 * u) 65 0 0 9) := FM_cpS hc S4 (by decide)
    have cA := cpS_A hc (SK_isA S4 (by decide +kernel))
    obtain ⟨wa, hwa⟩ : ∃ wa, wa = cpS w4 (7 + 5 * u) 65 0 0 9 := ⟨_, rfl⟩
    rw [← hwa] at y3 fc cA
    have Sa := fc.2.2.2
    have l65 : (gA w4 65).length = 9 := SK_len S4 (a := 65) (n := 9) (by decide +kernel) (by decide)
    have l7 : (gA w4 (7 + 5 * u)).length = 9 := by
      have c : u = 0 ∨ u = 1 := by omega
      rcases c with rfl | rfl
      · exact SK_len S4 (a := 7) (n := 9) (by decide +kernel) (by decide)
      · exact SK_len S4 (a := 12) (n := 9) (by decide +kernel) (by decide)
    have hfe : ∀ p, p < Pof a u → ((gA wa 65).getD p 0).toInt = feF a u p ∧ 0 ≤ feF a u p ∧ feF a u p ≤ 1000 := by
      intro p hp
      have := fb p (by omega)
      refine ⟨?_, this.1, by omega⟩
      rw [cA, z32, e9, cpy_getF (by rw [l7]; decide) (by rw [l65]; decide), if_pos (by omega)]
      show ((gA w4 (7 + 5 * u)).getD (0 + (p - 0)) 0).toInt = _
      rw [show 0 + (p - 0) = p by omega, k3 p (by omega)]
      rfl
    have hrk : ∀ p, p < Pof a u → ((gA wa (5 + 5 * u + 3)).getD p 0).toInt = rkF a u p ∧ 0 ≤ rkF a u p ∧ rkF a u p ≤ 100 := by
      intro p hp
      refine ⟨?_, rb p (by omega)⟩
      rw [show 5 + 5 * u + 3 = 8 + 5 * u by omega, FM_a fc (by simp <;> omega), k4 p (by omega)]
      rfl
    have cell : ∀ c, c < 4 → (gA wa (5 + 5 * u + 4)).getD (4 * κ + c) 0 = wtP a u κ c := fun c hc => by
      rw [show 5 + 5 * u + 4 = 9 + 5 * u by omega, FM_a fc (by simp <;> omega), k5 _ (by omega)]
      unfold wtP
      rw [show 712 + 132 * u + (4 * κ + c) = 712 + 132 * u + 4 * κ + c by omega]
    obtain ⟨b1, b2, b3, b4⟩ := F134 (v := 5 + 5 * u) (κ := κ) (a := wAf a u κ) (b := wBf a u κ) (y := wNf a u κ) Sa (by rw [FM_r fc (by simp)]; exact h0) (by omega) (okV_n u1) (by rw [FM_i fc (by simp), k0]; exact v3) v1 (by rw [FM_r fc (by simp), r5]; omega) (by rw [FM_r fc (by simp), r6]; omega) hfe hrk h4 (by omega) (by rw [cell 0 (by decide)]; unfold wAf; omega) (by rw [cell 1 (by decide)]; unfold wBf; omega) (by rw [cell 2 (by decide)]; rfl) (by unfold wAf; omega) (by unfold wBf; omega) (by unfold wAf wBf; omega) y3
    have hR : ∀ i j, i < 9 → j < 9 → (rmI (vcl wa (5 + 5 * u)) (dA wa 33) i j).toInt = (rmI (Vof a u) D i j).toInt := fun i j hi hj => by
      have ed : dA wa 33 = D := by
        rw [show dA wa 33 = dA w4 33 from by funext q; unfold dA; rw [FM_a fc (by decide)]]
        exact hd
      rw [ed, rmI_cg (V := Vof a u) (fun q hq => ?_) hi hj]
      exact VOK_vcl (VOK_fm hK fc (by intro q hq; cases hq) (by decide)) hq
    have hres : (((gI w3 55 6).toInt = 0 ∧ q2 = some (.int 0)) ∨ (0 < (gI w3 55 6).toInt ∧ q2 = some (.int 1))) := b4
    have S3 := b1.2.2.2
    have fin : ∀ x : Int32, q2 = some (.int x) → r = some (.int x) ∧ w' = w3 := fun x hx => h x hx S3
    have out : w' = w3 := by
      rcases hres with ⟨_, q⟩ | ⟨_, q⟩
      · exact (fin _ q).2
      · exact (fin _ q).2
    rw [out]
    refine ⟨FM_trans (FM_mono fc (by intro p hp; cases hp) (by decide)) (FM_mono b1 (fun _ h => h) (by decide)), SBw_cg (fun m c => VRg_c9 v1 hR) b3, ?_⟩
    rcases hres with ⟨q1, q⟩ | ⟨q1, q⟩
    · exact Or.inl ⟨q1, (fin _ q).1⟩
    · exact Or.inr ⟨q1, (fin _ q).1⟩
/-- who is in a ring, as cells of an act -/
def obE (E : Nat → Nat) : Nat → Int32 := fun t => Int32.ofNat (E (t - 3))
theorem obE_v (h : E i < 9) : (obE E (3 + i)).toInt = E i := by
  show (Int32.ofNat (E (3 + i - 3))).toInt = _
  rw [show 3 + i - 3 = i by omega, Int32.toInt_ofNat_of_lt (by omega)]
theorem obE_w (h : E i < 9) : eWho (obE E) i = E i := by
  unfold eWho
  rw [obE_v h]
  omega
/-- what is earned, after t of a ring -/
def eaU (fee : Nat → Int32) (n : Int32) (E : Nat → Nat) (e : Nat → Int32) : Nat → Nat → Int32
  | 0 => e
  | t + 1 => if 2 ≤ t then updc (eaU fee n E e t) (E t) (eaU fee n E e t (E t) + fee (E t) * n) else eaU fee n E e t
theorem eaU_hi (h : 2 ≤ t) : eaU fee n E e (t + 1) = updc (eaU fee n E e t) (E t) (eaU fee n E e t (E t) + fee (E t) * n) := if_pos h
theorem eaU_lo (h : t < 2) : eaU fee n E e (t + 1) = eaU fee n E e t := if_neg (by omega)
theorem eaU_2 : eaU fee n E e 2 = e := by rw [eaU_lo (by decide), eaU_lo (by decide)]; rfl
/-- after κ wants: the debts, the wants that stand, what is earned -/
def OBn (a : Nat → Int32) (u : Nat) (so : Int32) (D0 : Nat → Int32) : Nat → (Nat → Int32) → Nat → (Nat → Int32) → Prop
  | 0, D, s, e => D = D0 ∧ s = 0 ∧ e = fun _ => 0
  | κ + 1, D, s, e => ∃ (D1 : Nat → Int32) (s1 : Nat) (e1 : Nat → Int32), OBn a u so D0 κ D1 s1 e1 ∧ (((∀ m c, ¬ RVo a u D1 κ m c) ∧ D = D1 ∧ s = s1 ∧ e = e1) ∨ ∃ m c : Nat, BSt (GR so (feF a u) (rkF a u) (wAf a u κ) (wBf a u κ)) (RVo a u D1 κ) m c ∧ D = adD (obE (elN (wAf a u κ) (wBf a u κ) m c)) m (wtP a u κ 2) m D1 ∧ s = 2 ^ κ + s1 ∧ e = eaU (fun p => a (694 + 132 * u + p)) (wtP a u κ 2) (elN (wAf a u κ) (wBf a u κ) m c) e1 m)
theorem OB_s : ∀ κ D s e, OBn a u so D0 κ D s e → s < 2 ^ κ
  | 0, D, s, e, h => by rw [h.2.1]; decide
  | κ + 1, D, s, e, h => by
    obtain ⟨D1, s1, e1, h1, h2⟩ := h
    have q := OB_s κ D1 s1 e1 h1
    rw [Nat.pow_succ]
    rcases h2 with ⟨_, _, h, _⟩ | ⟨m, c, _, _, h, _⟩ <;> omega
theorem OB_uq : ∀ κ D s e D' s' e', OBn a u so D0 κ D s e → OBn a u so D0 κ D' s' e' → D = D' ∧ s = s' ∧ e = e'
  | 0, D, s, e, D', s', e', h, h' => ⟨h.1.trans h'.1.symm, h.2.1.trans h'.2.1.symm, h.2.2.trans h'.2.2.symm⟩
  | κ + 1, D, s, e, D', s', e', h, h' => by
    obtain ⟨D1, s1, e1, h1, h2⟩ := h
    obtain ⟨D2, s2, e2, g1, g2⟩ := h'
    obtain ⟨q1, q2, q3⟩ := OB_uq κ D1 s1 e1 D2 s2 e2 h1 g1
    rw [← q1, ← q2, ← q3] at g2
    rcases h2 with ⟨a1, a2, a3, a4⟩ | ⟨m, c, a1, a2, a3, a4⟩
    · rcases g2 with ⟨b1, b2, b3, b4⟩ | ⟨m', c', b1, b2, b3, b4⟩
      · exact ⟨a2.trans b2.symm, a3.trans b3.symm, a4.trans b4.symm⟩
      · exact absurd b1.1 (a1 m' c')
    · rcases g2 with ⟨b1, b2, b3, b4⟩ | ⟨m', c', b1, b2, b3, b4⟩
      · exact absurd a1.1 (b1 m c)
      · obtain ⟨e1, e2⟩ := BSt_uq a1 b1
        rw [← e1, ← e2] at b2 b4
        exact ⟨a2.trans b2.symm, a3.trans b3.symm, a4.trans b4.symm⟩
def eaC (w : pm_W) (q : Nat) : Int32 := (gA w 84).getD q 0
theorem l84 (hS : SK w) : (gA w 84).length = 9 := SK_len hS (a := 84) (n := 9) (by decide +kernel) (by decide)
theorem eaC_s (hS : SK w) (hx : i1.toInt = d) (hd : d < 9) : eaC (aS w 84 i1 x) = updc (eaC w) d x := by
  funext q
  unfold eaC updc
  rw [gA_aS (SK_isA hS (by decide +kernel)), i_nat hx, getD_set (by rw [l84 hS]; exact hd)]
theorem F157 (hK : VOK a u w) (hm : 2 ≤ m ∧ m ≤ 6) (h6 : (gI w 55 6).toInt = m) (hE : ∀ i, i < m → ((gA w 67).getD i 0).toInt = E i ∧ E i < 9) (h : PS X k 157 0 [.ref 83, .ref (5 + 5 * u), .ref 55, .int n, pm_dead, pm_dead] [] w r w') : r = none ∧ FM [] [84] w w' ∧ eaC w' = eaU (fun p => a (694 + 132 * u + p)) n E (eaC w) m := by
  have lp : ∀ (k t : Nat) (wk : pm_W) (i4 : Int32) (u5 : Value), FM [] [84] w wk → i4.toInt = t → 2 ≤ t → t ≤ m → eaC wk = eaU (fun p => a (694 + 132 * u + p)) n E (eaC w) t → PS X k 157 3 [.ref 83, .ref (5 + 5 * u), .ref 55, .int n, .int i4, u5] [] wk r w' → r = none ∧ FM [] [84] w w' ∧ eaC w' = eaU (fun p => a (694 + 132 * u + p)) n E (eaC w) m := by
    intro k
    induction k with
    | zero => intro t wk i4 u5 _ _ _ _ _ h; exact (PS_0 h).elim
    | succ k ih =>
      intro t wk i4 u5 fm h4 ht tm he h
      have S1 : SK wk := fm.2.2.2
      have h := U157_3 S1 h
      by_cases c : gI wk 55 6 ≤ i4
      · rw [if_pos c] at h
        rw [Int32.le_iff_toInt_le, FM_i fm (by simp), h6, h4] at c
        rw [h.2]
        exact ⟨h.1, fm, by rw [he, show t = m by omega]⟩
      · rw [if_neg c] at h
        rw [Int32.le_iff_toInt_le, FM_i fm (by simp), h6, h4] at c
        have htm : t < m := by omega
        obtain ⟨e1, e2⟩ := hE t htm
        obtain ⟨_, _, _, _, h⟩ := h
        have h := h _ rfl
        have K1 := VOK_fm hK fm (by intro q hq; cases hq) (by decide)
        obtain ⟨_, v4, _⟩ := VR S1 K1.2.1
        have ev : (aG wk 67 i4).toInt = E t := by rw [aG_n h4, FM_a fm (by decide)]; exact e1
        rw [v4] at h
        refine ih (t + 1) _ _ _ (FM_trans fm (FM_aS S1 (by decide))) (by rw [zi_inc (n := 40) (by omega) (by omega), h4]; rfl) (by omega) (by omega) ?_ h
        have g1 : aG wk 84 (aG wk 67 i4) = eaC wk (E t) := aG_n ev
        have g2 : aG wk (7 + 5 * u) (aG wk 67 i4) = a (694 + 132 * u + E t) := by rw [aG_n ev]; exact K1.2.2.2.2.2.1 _ e2
        rw [eaC_s S1 ev e2, g1, g2, he, eaU_hi ht]
  cases k with
  | zero => exact (PS_0 h).elim
  | succ k => exact lp k 2 w 2 pm_dead (FM_refl hK.1) two32 (Nat.le_refl 2) hm.1 eaU_2.symm (U157_0 hK.1 h)
abbrev obF : List (Nat × Nat) := [(33, 2), (83, 0), (83, 1), (55, 0), (55, 1), (55, 2), (55, 6), (55, 7), (55, 8)]
abbrev obA : List Nat := [39, 40, 65, 66, 67, 84]
/-- what stands after all wants -/
def OBw (a : Nat → Int32) (u : Nat) (so : Int32) (D0 : Nat → Int32) (w' : pm_W) : Prop := ∃ (D : Nat → Int32) (s : Nat) (e : Nat → Int32), OBn a u so D0 (Wof a u) D s e ∧ (gI w' 83 0).toInt = s ∧ (gI w' 83 1).toInt = vlS (fun κ => wtP a u κ 3) (Wof a u) s ∧ eaC w' = e
theorem F156_l (hV : VAa a) (hu : u < (a 0).toInt.toNat) : ∀ (k κ N s : Nat) (w : pm_W) (D e : Nat → Int32) (i5 : Int32) (u6 : Value), VOK a u w → gR w 33 0 = 5 + 5 * u → dA w 33 = D → (gI w 33 2).toInt = N → N ≤ 30 + κ → i5.toInt = κ → κ ≤ Wof a u → OBn a u so D0 κ D s e → (gI w 83 0).toInt = s → (gI w 83 1).toInt = vlS (fun κ => wtP a u κ 3) κ s → eaC w = e → PS X k 156 27 [.ref 83, .ref 33, .ref 55, .int so, .ref (5 + 5 * u), .int i5, u6] [] w r w' → r = none ∧ FM obF obA w w' ∧ OBw a u so D0 w' := by
  obtain ⟨x1, x2, x3⟩ := VA_w hV hu
  have hwb : ∀ κ, κ < Wof a u → 0 ≤ (wtP a u κ 3).toInt ∧ (wtP a u κ 3).toInt ≤ 99 := fun κ hκ => by
    have q := x3 κ hκ
    exact ⟨q.2.2.2.2.2.2.2.1, q.2.2.2.2.2.2.2.2⟩
  intro k
  induction k with
  | zero => intro κ N s w D e i5 u6 _ _ _ _ _ _ _ _ _ _ _ h; exact (PS_0 h).elim
  | succ k ih =>
    intro κ N s w D e i5 u6 hK h0 hd hN hN0 h5 hκ hO hs hv he h
    have hS : SK w := hK.1
    have h := U156_27 hS h
    have sl := OB_s κ D s e hO
    by_cases c : gI w (5 + 5 * u) 2 ≤ i5
    · rw [if_pos c] at h
      rw [Int32.le_iff_toInt_le, hK.2.2.2.1, x1, h5] at c
      have ek : κ = Wof a u := by omega
      rw [ek] at hO hv
      rw [h.2]
      exact ⟨h.1, FM_refl hS, D, s, e, hO, hs, hv, he⟩
    · rw [if_neg c] at h
      rw [Int32.le_iff_toInt_le, hK.2.2.2.1, x1, h5] at c
      have hκW : κ < Wof a u := by omega
      have e1 : (i5 + 1).toInt = ((κ + 1 : Nat) : Int) := by rw [zi_inc (n := 40) (by omega) (by omega), h5]; rfl
      have h := use_p hS h (fun _ _ y => F65g hK h5 (by omega) two32 (by decide) y)
      obtain ⟨r4, w5, y5, h⟩ := h
      obtain ⟨f5, hB, hres⟩ := F133g hK hV hu h0 hd h5 hκW y5
      have S5 := f5.2.2.2
      have K5 := VOK_fm hK f5 (by decide) (by decide)
      have f5o : FM obF obA w w5 := FM_mono f5 (by decide) (by decide)
      have d5 : dA w5 33 = D := by rw [← hd]; funext q; unfold dA; rw [FM_a f5 (by decide)]
      rcases hB with ⟨n1, n2⟩ | ⟨m, cc, b1, hm, g6, hel, _⟩
      · have rq : r4 = some (.int 0) := by
          rcases hres with ⟨_, q⟩ | ⟨q, _⟩
          · exact q
          · omega
        have h := h _ rq S5
        rw [if_pos rfl] at h
        obtain ⟨a1, a2, a3⟩ := ih (κ + 1) N s w5 D e _ _ K5 (by rw [FM_r f5 (by decide)]; exact h0) d5 (by rw [FM_i f5 (by decide)]; exact hN) (by omega) e1 (by omega) ⟨D, s, e, hO, Or.inl ⟨n2, rfl, rfl, rfl⟩⟩ (by rw [FM_i f5 (by decide)]; exact hs) (by rw [FM_i f5 (by decide), vlS_lo sl]; exact hv) (by rw [← he]; funext q; unfold eaC; rw [FM_a f5 (by decide)]) h
        exact ⟨a1, FM_trans f5o a2, a3⟩
      · have rq : r4 = some (.int 1) := by
          rcases hres with ⟨q, _⟩ | ⟨_, q⟩
          · omega
          · exact q
        have h := h _ rq S5
        rw [if_neg (by decide +kernel)] at h
        obtain ⟨r7, w8, y7, h⟩ := h
        obtain ⟨v1, _⟩ := VA_v hV hu
        have hE9 : ∀ i, i < m → elN (wAf a u κ) (wBf a u κ) m cc i < 9 := fun i hi => by have := (hel i hi).2; omega
        have hC : ECi w5 67 m (obE (elN (wAf a u κ) (wBf a u κ) m cc)) := ⟨hm.1, hm.2, fun j hj => Int32.toInt_inj.mp (by rw [(hel j hj).1, obE_v (hE9 j hj)]), fun t ht => by rw [obE_v (hE9 t ht)]; have := hE9 t ht; omega⟩
        obtain ⟨d1, f8, d2, d3, _⟩ := F81 (N := N) S5 (by decide +kernel) (by omega) (by rw [FM_i f5 (by decide)]; exact hN) (by decide) hC g6 y7
        have S8 := f8.2.2.2
        have f8o : FM obF obA w5 w8 := FM_mono f8 (by decide) (by decide)
        have h := h d1 S8 _ rfl
        have f9 : FM [(83, 0)] [] w8 (sI w8 83 0 (gI w8 83 0 ||| (1 <<< (i5 &&& 31)))) := FM_sI S8 (by decide)
        obtain ⟨w9, hw9⟩ : ∃ w9, w9 = sI w8 83 0 (gI w8 83 0 ||| (1 <<< (i5 &&& 31))) := ⟨_, rfl⟩
        have g9 : gI w9 83 0 = gI w8 83 0 ||| (1 <<< (i5 &&& 31)) := by rw [hw9]; exact gI_sI (SK_isF S8 (by decide +kernel))
        rw [← hw9] at h f9
        have S9 := f9.2.2.2
        have K9 := VOK_fm (VOK_fm K5 f8 (by decide) (by decide)) f9 (by decide) (by decide)
        have h := use_p S9 h (fun _ _ y => F65g (c := 3) K9 h5 (by omega) three32 (by decide) y)
        have h := h _ rfl
        have f13 : FM [(83, 1)] [] w9 (sI w9 83 1 (gI w9 83 1 + wtP a u κ 3)) := FM_sI S9 (by decide)
        obtain ⟨w13, hw13⟩ : ∃ w13, w13 = sI w9 83 1 (gI w9 83 1 + wtP a u κ 3) := ⟨_, rfl⟩
        have g13 : gI w13 83 1 = gI w9 83 1 + wtP a u κ 3 := by rw [hw13]; exact gI_sI (SK_isF S9 (by decide +kernel))
        rw [← hw13] at h f13
        have S13 := f13.2.2.2
        have K13 := VOK_fm K9 f13 (by decide) (by decide)
        obtain ⟨r14, w15, y14, h⟩ := h
        have f513 : FM obF obA w5 w13 := FM_trans f8o (FM_trans (FM_mono f9 (by decide) (by decide)) (FM_mono f13 (by decide) (by decide)))
        have g67 : gA w13 67 = gA w5 67 := by rw [FM_a f13 (by decide), FM_a f9 (by decide), FM_a f8 (by decide)]
        have g84 : eaC w13 = e := by rw [← he]; funext q; unfold eaC; rw [FM_a f13 (by decide), FM_a f9 (by decide), FM_a f8 (by decide), FM_a f5 (by decide)]
        obtain ⟨c1, f15, c2⟩ := F157 (E := elN (wAf a u κ) (wBf a u κ) m cc) K13 hm (by rw [FM_i f13 (by decide), FM_i f9 (by decide), FM_i f8 (by decide)]; exact g6) (fun i hi => by rw [g67]; exact ⟨(hel i hi).1, hE9 i hi⟩) y14
        have S15 := f15.2.2.2
        have h := h c1 S15
        rw [g84] at c2
        have hvb := vlS_b (s := s) hwb κ (by omega)
        have hwk := hwb κ hκW
        have i83 : (gI w8 83 1) = gI w 83 1 := by rw [FM_i f8 (by decide), FM_i f5 (by decide)]
        obtain ⟨a1, a2, a3⟩ := ih (κ + 1) (N + 1) (2 ^ κ + s) w15 (adD (obE (elN (wAf a u κ) (wBf a u κ) m cc)) m (wtP a u κ 2) m D) (eaU (fun p => a (694 + 132 * u + p)) (wtP a u κ 2) (elN (wAf a u κ) (wBf a u κ) m cc) e m) _ _ (VOK_fm K13 f15 (by intro q hq; cases hq) (by decide)) (by rw [FM_r f15 (by simp), FM_r f13 (by decide), FM_r f9 (by decide), FM_r f8 (by decide), FM_r f5 (by decide)]; exact h0) (by
          rw [← d5, ← d3]
          funext q
          unfold dA
          rw [FM_a f15 (by decide), FM_a f13 (by decide), FM_a f9 (by decide)]) (by rw [FM_i f15 (by simp), FM_i f13 (by decide), FM_i f9 (by decide)]; exact d2) (by omega) e1 (by omega) ⟨D, s, e, hO, Or.inr ⟨m, cc, b1, rfl, rfl, rfl⟩⟩ (by
          rw [FM_i f15 (by simp), FM_i f13 (by decide), g9]
          exact or_pow h5 (by omega) (by rw [FM_i f8 (by decide), FM_i f5 (by decide)]; exact hs) sl) (by
          rw [FM_i f15 (by simp), g13, FM_i f9 (by decide), i83, vlS_hi sl, zi_add hv rfl (by omega) (by omega)]) c2 h
        exact ⟨a1, FM_trans f5o (FM_trans f513 (FM_trans (FM_mono f15 (by intro p hp; cases hp) (by decide)) a2)), a3⟩
theorem F156 (hK : VOK a u w) (hV : VAa a) (hu : u < (a 0).toInt.toNat) (h0 : gR w 33 0 = 5 + 5 * u) (hd : dA w 33 = D0) (hN : (gI w 33 2).toInt = N) (hN0 : N ≤ 30) (h : PS X k 156 0 [.ref 83, .ref 33, .ref 55, .int so, pm_dead, pm_dead, pm_dead] [] w r w') : r = none ∧ FM obF obA w w' ∧ OBw a u so D0 w' := by
  have hS : SK w := hK.1
  cases k with
  | zero => exact (PS_0 h).elim
  | succ k =>
    have h := U156_0 hS h _ rfl _ rfl
    have f1 : FM obF obA w (sI w 83 0 0) := FM_sI hS (by decide)
    have S1 := f1.2.2.2
    have f2 : FM [(83, 1)] [] (sI w 83 0 0) (sI (sI w 83 0 0) 83 1 0) := FM_sI S1 (by decide)
    have S2 := f2.2.2.2
    have g0 : gI (sI (sI w 83 0 0) 83 1 0) 83 0 = 0 := by rw [FM_i f2 (by decide)]; exact gI_sI (SK_isF hS (by decide +kernel))
    have g1 : gI (sI (sI w 83 0 0) 83 1 0) 83 1 = 0 := gI_sI (SK_isF S1 (by decide +kernel))
    obtain ⟨r3, w4, y3, h⟩ := h
    obtain ⟨a1, f4, _, a4⟩ := F20 S2 (SK_isA S2 (by decide +kernel)) (by rw [l84 S2]; decide) y3
    have S4 := f4.2.2.2
    have h := h a1 S4
    rw [h0] at h
    have ft := FM_trans f1 (FM_trans (FM_mono f2 (by decide) (by decide)) (FM_mono f4 (by intro p hp; cases hp) (by decide)))
    have K4 := VOK_fm hK ft (by decide) (by decide)
    obtain ⟨b1, b2, b3⟩ := F156_l (so := so) (D0 := D0) hV hu k 0 N 0 w4 D0 (fun _ => 0) 0 pm_dead K4 (by rw [FM_r ft (by decide)]; exact h0) (by
      rw [← hd]
      funext q
      unfold dA
      rw [FM_a f4 (by decide), FM_a f2 (by decide), gA_sI]) (by rw [FM_i f4 (by simp), FM_i f2 (by decide), gI_sI_ne (by decide)]; exact hN) (by omega) z32 (Nat.zero_le _) ⟨rfl, rfl, rfl⟩ (by rw [FM_i f4 (by simp), g0]; exact z32) (by rw [FM_i f4 (by simp), g1]; exact z32) (by
      funext q
      show (gA w4 84).getD q 0 = 0
      by_cases c : q < 9
      · exact a4 q (by rw [l84 S2]; exact c)
      · rw [List.getD_eq_getElem?_getD, List.getElem?_eq_none (by rw [l84 S4]; omega)]
        rfl) h
    exact ⟨b1, FM_trans ft b2, b3⟩
end JWA
