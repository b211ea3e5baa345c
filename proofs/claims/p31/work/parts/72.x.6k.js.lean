/-! ===== rest, asked on both sides ===== -/
section JSA
variable {X : pm_X} {k k2 : Nat} {w0 w w1 w2 w3 w4 w5 w6 wj w' : pm_W} {r r2 q0 q1 q2 : Option Value} {p1 p2 p3 p4 p5 p6 i1 i2 i3 i4 i5 i6 i7 i8 i9 z z1 z2 so x : Int32} {i v j m c u P t s b d p q fx Q I J K T W N κ bm n : Nat} {l l6 l10 : Int64} {e g y : Int} {fe rk : Nat → Int} {E : Nat → Nat} {u9 u10 u12 : Value} {V : Nat → Nat → Prop} {R : Nat → Nat → Int} {a : Nat → Int32} {s1 t1 t2 : SN}
theorem F146 (h3 : RL3 w) (f1 : FM [(33, 0), (33, 1), (33, 2)] [39, 40, 41] w w4) (hu : u < (al w 0).toInt.toNat) (a3 : CSt w4 33 (5 + 5 * u) (Pof (al w) u) s1.1 s1.2.1 s1.2.2.1 s1.2.2.2) (h4 : p4.toInt = κ) (hκ : κ < Wof (al w) u) (hp : p5.toInt = p) (hpP : p < Pof (al w) u) (h : PS X k 146 0 [.ref 55, .ref 33, .int p4, .int p5, pm_dead, pm_dead, pm_dead, pm_dead] [] w4 r w') : FM slF [65, 66, 67] w4 w' ∧ ∃ z : Int32, r = some (.int z) ∧ GWt (InB (VWt (al w) u κ s1) (feF (al w) u) (rkF (al w) u) (wAf (al w) u κ) (wBf (al w) u κ) p) z.toInt := by
  have hS := h3.1.1
  have S4 : SK w4 := f1.2.2.2
  have e9 : (9 : Int32).toInt = 9 := nine32
  obtain ⟨v1, v1', v3, v2, v4⟩ := VA_v h3.2 hu
  obtain ⟨x1, x2, x3⟩ := VA_w h3.2 hu
  obtain ⟨fb, rb⟩ := VA_f h3.2 hu
  obtain ⟨u1, g0, gw, _, _, g4, g5, g6⟩ := VT hS h3.1.2.1 hu
  obtain ⟨c1, c2, c3, c4⟩ := CVL h3 hu f1 a3
  obtain ⟨_, r4, r5, r6⟩ := VR S4 u1
  obtain ⟨y0, y0', y1, y1', y01, y2, y2', _⟩ := x3 κ hκ
  rw [c3] at c1
  cases k with
  | zero => exact (PS_0 h).elim
  | succ k =>
    obtain ⟨hc, h⟩ := U146_0 S4 h
    rw [c3, r4] at hc h
    have h := h _ rfl
    have fc : FM [] [65] w4 (cpS w4 (7 + 5 * u) 65 0 0 9) := FM_cpS hc S4 (by decide)
    have cA := cpS_A hc (SK_isA S4 (by decide +kernel))
    obtain ⟨wa, hwa⟩ : ∃ wa, wa = cpS w4 (7 + 5 * u) 65 0 0 9 := ⟨_, rfl⟩
    rw [← hwa] at h fc cA
    have Sa := fc.2.2.2
    have l65 : (gA w4 65).length = 9 := SK_len S4 (a := 65) (n := 9) (by decide +kernel) (by decide)
    have l7 : (gA w4 (7 + 5 * u)).length = 9 := by
      have c : u = 0 ∨ u = 1 := by omega
      rcases c with rfl | rfl
      · exact SK_len S4 (a := 7) (n := 9) (by decide +kernel) (by decide)
      · exact SK_len S4 (a := 12) (n := 9) (by decide +kernel) (by decide)
    have hfe : ∀ x, x < Pof (al w) u → ((gA wa 65).getD x 0).toInt = feF (al w) u x := by
      intro x hx
      rw [cA, z32, e9, cpy_getF (by rw [l7]; decide) (by rw [l65]; decide), if_pos (by omega), FM_a f1 (by simp <;> omega)]
      show ((gA w (7 + 5 * u)).getD (0 + (x - 0)) 0).toInt = _
      rw [show 0 + (x - 0) = x by omega, g4 x (by omega)]
      rfl
    have hrk : ∀ x, x < Pof (al w) u → ((gA w4 (5 + 5 * u + 3)).getD x 0).toInt = rkF (al w) u x ∧ 0 ≤ rkF (al w) u x ∧ rkF (al w) u x ≤ 100 := by
      intro x hx
      refine ⟨?_, rb x (by omega)⟩
      rw [show 5 + 5 * u + 3 = 8 + 5 * u by omega, FM_a f1 (by simp <;> omega), g5 x (by omega)]
      rfl
    have cell : ∀ c, c < 4 → (gA w4 (5 + 5 * u + 4)).getD (4 * κ + c) 0 = wtP (al w) u κ c := fun c hc => by
      rw [show 5 + 5 * u + 4 = 9 + 5 * u by omega, FM_a f1 (by simp <;> omega), g6 _ (by omega)]
      unfold wtP
      rw [show 712 + 132 * u + (4 * κ + c) = 712 + 132 * u + 4 * κ + c by omega]
    have hV : ∀ i j, i < 9 → j < 9 → (rmI (vcl w4 (5 + 5 * u)) (dA w4 33) i j).toInt = (rmI (Vof (al w) u) s1.1 i j).toInt := fun i j hi hj => by
      rw [show dA w4 33 = s1.1 from a3.2.2.1, rmI_cg (V := Vof (al w) u) (fun q hq => c4 q hq) hi hj]
    have eV : VRg (fun i j => (rmI (vcl w4 (5 + 5 * u)) (dA w4 33) i j).toInt) (Pof (al w) u) (wNf (al w) u κ) (wAf (al w) u κ) (wBf (al w) u κ) = VWt (al w) u κ s1 := by
      funext m c
      exact propext (VRg_c9 v1 hV)
    exact F146_28 (v := 5 + 5 * u) (κ := κ) (a := wAf (al w) u κ) (b := wBf (al w) u κ) (y := wNf (al w) u κ) (P := Pof (al w) u) (V := VWt (al w) u κ s1) c3 (by omega) (okV_n u1) c1 v1 (by rw [r5]; omega) (by rw [r6]; omega) S4 (fun x hx => fb x (by omega)) hrk h4 (by omega) (by rw [cell 0 (by decide)]; unfold wAf; omega) (by rw [cell 1 (by decide)]; unfold wBf; omega) (by rw [cell 2 (by decide)]; rfl) (by unfold wAf; omega) (by unfold wBf; omega) (by unfold wAf wBf; omega) hp hpP eV.symm (fun hx f => VRg_ex hx) k 0 wa (-1) 100 0 _ (FM_mono fc (by intro p hp; cases hp) (by decide)) (fun x hx _ => hfe x hx) z32 (by rw [m1i]; exact Int.le_refl _) (by decide +kernel) (by decide +kernel) (Or.inl rfl) (Or.inl m1i) (Or.inl (by decide +kernel)) h
end JSA
