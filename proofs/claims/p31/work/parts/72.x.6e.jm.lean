/-! ===== find, asked on both sides ===== -/
section JMA
variable {X : pm_X} {k k2 : Nat} {w0 w w1 w2 w3 w4 w5 w6 wj w' : pm_W} {r r2 q0 q1 q2 : Option Value} {p1 p2 p3 p4 p5 p6 i1 i2 i3 i4 i5 i6 i7 i8 i9 z z1 z2 so x : Int32} {i v j m c u P t s b d p q fx Q I J K T W N κ bm n : Nat} {l l6 l10 : Int64} {e g y : Int} {fe rk : Nat → Int} {E : Nat → Nat} {u9 u10 u12 : Value} {V : Nat → Nat → Prop} {R : Nat → Nat → Int} {a : Nat → Int32} {s1 t1 t2 : SN}
def feF (a : Nat → Int32) (u x : Nat) : Int := (a (694 + 132 * u + x)).toInt
def rkF (a : Nat → Int32) (u x : Nat) : Int := (a (703 + 132 * u + x)).toInt
theorem VA_f (h : VAa a) (hu : u < (a 0).toInt.toNat) : (∀ x, x < 9 → 0 ≤ feF a u x ∧ feF a u x ≤ 99) ∧ ∀ x, x < 9 → 0 ≤ rkF a u x ∧ rkF a u x ≤ 100 := by
  obtain ⟨g, hg, _, _, _, _, h4, h5, _⟩ := h.1 u hu
  unfold feF rkF
  refine ⟨fun x hx => ?_, fun x hx => ?_⟩
  · have q := h4 x hx
    rw [show 694 + 132 * u + x = 610 + 132 * u + (84 + x) by omega]
    exact q
  · have q := h5 x hx
    rw [show 703 + 132 * u + x = 610 + 132 * u + (93 + x) by omega]
    exact q
theorem VRg_c9 {R' : Nat → Nat → Int} {a b : Nat} (hP : P ≤ 9) (hR : ∀ i j, i < 9 → j < 9 → R i j = R' i j) : VRg R P y a b m c ↔ VRg R' P y a b m c := by
  have one : ∀ (R R' : Nat → Nat → Int), (∀ i j, i < 9 → j < 9 → R i j = R' i j) → VRg R P y a b m c → VRg R' P y a b m c := by
    rintro R R' hR ⟨h1, h2, h3, ⟨g1, g2, g3⟩, h4⟩
    have el : ∀ i, i < m → elN a b m c i < 9 := fun i hi => by have := g1 i hi; omega
    refine ⟨h1, h2, h3, ⟨g1, g2, fun i hi => by rw [← hR _ _ (el i (by omega)) (el (i + 1) hi)]; exact g3 i hi⟩, ?_⟩
    have e0 := el 0 (by omega)
    have q : R (elN a b m c (m - 1)) a = R' (elN a b m c (m - 1)) a := hR _ _ (el (m - 1) (by omega)) e0
    rw [← q]
    exact h4
  exact ⟨one R R' hR, one R' R (fun i j hi hj => (hR i j hi hj).symm)⟩
/-- the class's search for a want -/
theorem F133 (h3 : RL3 w) (f1 : FM [(33, 0), (33, 1), (33, 2)] [39, 40, 41] w w4) (hu : u < (al w 0).toInt.toNat) (a3 : CSt w4 33 (5 + 5 * u) (Pof (al w) u) s1.1 s1.2.1 s1.2.2.1 s1.2.2.2) (h4 : p4.toInt = κ) (hκ : κ < Wof (al w) u) (h : PS X k 133 0 [.ref 55, .ref 33, .int p4, .int p5] [] w4 r w') : FM slF [65, 66, 67] w4 w' ∧ SBw w' (Pof (al w) u) p5 (feF (al w) u) (rkF (al w) u) (wAf (al w) u κ) (wBf (al w) u κ) (VRg (fun i j => (rmI (Vof (al w) u) s1.1 i j).toInt) (Pof (al w) u) (wNf (al w) u κ) (wAf (al w) u κ) (wBf (al w) u κ)) ∧ (((gI w' 55 6).toInt = 0 ∧ r = some (.int 0)) ∨ (0 < (gI w' 55 6).toInt ∧ r = some (.int 1))) := by
  have hS := h3.1.1
  have S4 : SK w4 := f1.2.2.2
  have e9 : (9 : Int32).toInt = 9 := nine32
  obtain ⟨v1, v1', v3, v2, v4⟩ := VA_v h3.2 hu
  obtain ⟨x1, x2, x3⟩ := VA_w h3.2 hu
  obtain ⟨fb, rb⟩ := VA_f h3.2 hu
  obtain ⟨u1, g0, gw, _, _, g4, g5, g6⟩ := VT hS h3.1.2.1 hu
  obtain ⟨c1, c2, c3, c4⟩ := CVL h3 hu f1 a3
  obtain ⟨_, r4, r5, r6⟩ := VR S4 u1
  obtain ⟨y0, y0', y1, y1', y01, y2, y2', _⟩ := x3 κ hκ
  rw [c3] at c1
  cases k with
  | zero => exact (PS_0 h).elim
  | succ k =>
    obtain ⟨hc, h⟩ := U133_0 S4 h
    rw [c3, r4] at hc h
    obtain ⟨q2, w3, y3, h⟩ := h _ rfl
    have fc : FM [] [65] w4 (cpS w4 (7 + 5 * u) 65 0 0 9) := FM_cpS hc S4 (by decide)
    have cA := cpS_A hc (SK_isA S4 (by decide +kernel))
    obtain ⟨wa, hwa⟩ : ∃ wa, wa = cpS w4 (7 + 5 * u) 65 0 0 9 := ⟨_, rfl⟩
    rw [← hwa] at y3 fc cA
    have Sa := fc.2.2.2
    have l65 : (gA w4 65).length = 9 := SK_len S4 (a := 65) (n := 9) (by decide +kernel) (by decide)
    have l7 : (gA w4 (7 + 5 * u)).length = 9 := by
      have c : u = 0 ∨ u = 1 := by omega
      rcases c with rfl | rfl
      · exact SK_len S4 (a := 7) (n := 9) (by decide +kernel) (by decide)
      · exact SK_len S4 (a := 12) (n := 9) (by decide +kernel) (by decide)
    have hfe : ∀ p, p < Pof (al w) u → ((gA wa 65).getD p 0).toInt = feF (al w) u p ∧ 0 ≤ feF (al w) u p ∧ feF (al w) u p ≤ 1000 := by
      intro p hp
      have := fb p (by omega)
      refine ⟨?_, this.1, by omega⟩
      rw [cA, z32, e9, cpy_getF (by rw [l7]; decide) (by rw [l65]; decide), if_pos (by omega), FM_a f1 (by simp <;> omega)]
      show ((gA w (7 + 5 * u)).getD (0 + (p - 0)) 0).toInt = _
      rw [show 0 + (p - 0) = p by omega, g4 p (by omega)]
      rfl
    have hrk : ∀ p, p < Pof (al w) u → ((gA wa (5 + 5 * u + 3)).getD p 0).toInt = rkF (al w) u p ∧ 0 ≤ rkF (al w) u p ∧ rkF (al w) u p ≤ 100 := by
      intro p hp
      refine ⟨?_, rb p (by omega)⟩
      rw [show 5 + 5 * u + 3 = 8 + 5 * u by omega, FM_a fc (by simp <;> omega), FM_a f1 (by simp <;> omega), g5 p (by omega)]
      rfl
    have cell : ∀ c, c < 4 → (gA wa (5 + 5 * u + 4)).getD (4 * κ + c) 0 = wtP (al w) u κ c := fun c hc => by
      rw [show 5 + 5 * u + 4 = 9 + 5 * u by omega, FM_a fc (by simp <;> omega), FM_a f1 (by simp <;> omega), g6 _ (by omega)]
      unfold wtP
      rw [show 712 + 132 * u + (4 * κ + c) = 712 + 132 * u + 4 * κ + c by omega]
    obtain ⟨b1, b2, b3, b4⟩ := F134 (v := 5 + 5 * u) (κ := κ) (a := wAf (al w) u κ) (b := wBf (al w) u κ) (y := wNf (al w) u κ) Sa (by rw [FM_r fc (by simp)]; exact c3) (by omega) (okV_n u1) (by rw [FM_i fc (by simp)]; exact c1) v1 (by rw [FM_r fc (by simp), r5]; omega) (by rw [FM_r fc (by simp), r6]; omega) hfe hrk h4 (by omega) (by rw [cell 0 (by decide)]; unfold wAf; omega) (by rw [cell 1 (by decide)]; unfold wBf; omega) (by rw [cell 2 (by decide)]; rfl) (by unfold wAf; omega) (by unfold wBf; omega) (by unfold wAf wBf; omega) y3
    have hV : ∀ i j, i < 9 → j < 9 → (rmI (vcl wa (5 + 5 * u)) (dA wa 33) i j).toInt = (rmI (Vof (al w) u) s1.1 i j).toInt := fun i j hi hj => by
      have ed : dA wa 33 = s1.1 := by
        rw [show dA wa 33 = dA w4 33 from by funext q; unfold dA; rw [FM_a fc (by decide)]]
        exact a3.2.2.1
      rw [ed, rmI_cg (V := Vof (al w) u) (fun q hq => ?_) hi hj]
      rw [vcl_FMv S4 fc (okV_n u1) (by simp) (by simp) (by simp) (by simp <;> omega) (by simp <;> omega) (by simp <;> omega) (by simp <;> omega)]
      exact c4 q hq
    have hres : (((gI w3 55 6).toInt = 0 ∧ q2 = some (.int 0)) ∨ (0 < (gI w3 55 6).toInt ∧ q2 = some (.int 1))) := b4
    have S3 := b1.2.2.2
    have fin : ∀ x : Int32, q2 = some (.int x) → r = some (.int x) ∧ w' = w3 := fun x hx => h x hx S3
    have out : w' = w3 := by
      rcases hres with ⟨_, q⟩ | ⟨_, q⟩
      · exact (fin _ q).2
      · exact (fin _ q).2
    rw [out]
    refine ⟨FM_trans (FM_mono fc (by intro p hp; cases hp) (by decide)) (FM_mono b1 (fun _ h => h) (by decide)), SBw_cg (fun m c => VRg_c9 v1 hV) b3, ?_⟩
    rcases hres with ⟨q1, q⟩ | ⟨q1, q⟩
    · exact Or.inl ⟨q1, (fin _ q).1⟩
    · exact Or.inr ⟨q1, (fin _ q).1⟩
end JMA
