/-! ===== lookByFees, lookFor ===== -/
section JIA
variable {X : pm_X} {k k2 : Nat} {w0 w w1 w2 w3 w4 w5 wj w' : pm_W} {r r2 q0 q1 q2 : Option Value} {p1 p2 p3 p4 p5 i1 i2 i3 i4 i5 i6 i7 i8 z z1 z2 so x : Int32} {i v j m c m' c' u P t s a b d p q Q I J K T W N κ bm n : Nat} {l : Int64} {e g y : Int} {f fe rk : Nat → Int} {V : Nat → Nat → Prop} {R : Nat → Nat → Int}
theorem snN_2 (q : Nat) : snN a b 2 0 q = (decide (q = a) || decide (q = b)) := by
  apply Bool.eq_iff_iff.mpr
  rw [Bool.or_eq_true, snN_t, decide_eq_true_iff, decide_eq_true_iff]
  constructor
  · rintro ⟨i, hi, e⟩
    have c : i = 0 ∨ i = 1 := by omega
    rcases c with rfl | rfl
    · exact Or.inl e.symm
    · exact Or.inr e.symm
  · rintro (e | e)
    · exact ⟨0, by omega, e.symm⟩
    · exact ⟨1, by omega, e.symm⟩
theorem VPr_2 : VPr R P y a b 2 0 ↔ a < P ∧ b < P ∧ a ≠ b ∧ y ≤ R a b := by
  constructor
  · rintro ⟨h1, h2, h3⟩
    exact ⟨h1 0 (by decide), h1 1 (by decide), h2 0 1 (by decide) (by decide), h3 0 (by decide)⟩
  · rintro ⟨h1, h2, h3, h4⟩
    refine ⟨fun i hi => ?_, fun i j hij hj => ?_, fun i hi => ?_⟩
    · have c : i = 0 ∨ i = 1 := by omega
      rcases c with rfl | rfl
      · exact h1
      · exact h2
    · have c : i = 0 ∧ j = 1 := by omega
      rw [c.1, c.2]; exact h3
    · have c : i = 0 := by omega
      rw [c]; exact h4
theorem VRg_2 (h : VRg R P y a b m c) : VPr R P y a b 2 0 := by
  have q := VPr_pre (d := 2) (Nat.le_refl 2) h.1 h.2.2.2.1
  rw [Nat.div_eq_of_lt h.2.2.1] at q
  exact q
theorem EXr_2 : EXr R P y a b 2 0 m c ↔ VRg R P y a b m c := ⟨fun h => h.1, fun h => ⟨h, h.1, Nat.div_eq_of_lt h.2.2.1⟩⟩
theorem VRg_cg {R' : Nat → Nat → Int} (hR : ∀ i j, R i j = R' i j) : VRg R P y a b m c ↔ VRg R' P y a b m c := by
  rw [show R = R' from by funext i j; exact hR i j]
abbrev slF : List (Nat × Nat) := [(55, 0), (55, 1), (55, 2), (55, 6), (55, 7), (55, 8)]
theorem F134 (hS : SK w) (h0 : gR w 33 0 = v) (v30 : v < 30) (okv : okV v = true) (hP : (gI w v 0).toInt = P) (hP9 : P ≤ 9) (h5 : gR w v 5 = v + 3) (h6 : gR w v 6 = v + 4) (hfe : ∀ p, p < P → ((gA w 65).getD p 0).toInt = fe p ∧ 0 ≤ fe p ∧ fe p ≤ 1000) (hrk : ∀ p, p < P → ((gA w (v + 3)).getD p 0).toInt = rk p ∧ 0 ≤ rk p ∧ rk p ≤ 100) (hκ : p2.toInt = κ) (hκ7 : κ < 7) (hA : ((gA w (v + 4)).getD (4 * κ + 0) 0).toInt = a) (hB : ((gA w (v + 4)).getD (4 * κ + 1) 0).toInt = b) (hN : ((gA w (v + 4)).getD (4 * κ + 2) 0).toInt = y) (ha : a < P) (hb : b < P) (hab : a ≠ b) (h : PS X k 134 0 [.ref 55, .ref 33, .int p2, .int p3] [] w r w') : FM slF [66, 67] w w' ∧ SRC w' v P y p3 fe rk ∧ SBw w' P p3 fe rk a b (VRg (fun i j => (rmI (vcl w v) (dA w 33) i j).toInt) P y a b) ∧ (((gI w' 55 6).toInt = 0 ∧ r = some (.int 0)) ∨ (0 < (gI w' 55 6).toInt ∧ r = some (.int 1))) := by
  have four : (4 : Int32).toInt = 4 := by decide +kernel
  cases k with
  | zero => exact (PS_0 h).elim
  | succ k =>
    have h := U134_0 hS h _ rfl _ rfl
    have f1 : FM slF [66, 67] w (sR w 55 0 33) := FM_sR hS (by decide +kernel) (by decide)
    have S1 := f1.2.2.2
    have f2' : FM slF [66, 67] (sR w 55 0 33) (sI (sR w 55 0 33) 55 1 p3) := FM_sI S1 (by decide)
    have f2 := FM_trans f1 f2'
    have g0 : gR (sI (sR w 55 0 33) 55 1 p3) 55 0 = 33 := by rw [gR_sI, gR_sR hS (by decide +kernel)]
    have g1 : gI (sI (sR w 55 0 33) 55 1 p3) 55 1 = p3 := gI_sI (SK_isF S1 (by decide +kernel))
    obtain ⟨wa, hwa⟩ : ∃ wa, wa = sI (sR w 55 0 33) 55 1 p3 := ⟨_, rfl⟩
    rw [← hwa] at h f2 g0 g1
    have S2 := f2.2.2.2
    have cell : ∀ (wx : pm_W) (c : Nat) (pc : Int32) (r1 : Option Value) (w2 : pm_W) (k : Nat), FM slF [66, 67] w wx → pc.toInt = c → c < 4 → PS X k 65 0 [.ref v, .int p2, .int pc] [] wx r1 w2 → r1 = some (.int ((gA w (v + 4)).getD (4 * κ + c) 0)) ∧ w2 = wx := by
      intro wx c pc r1 w2 k fx hc hc4 hh
      obtain ⟨d1, d2⟩ := F65 fx.2.2.2 (show gR wx v 6 = v + 4 by rw [FM_r fx (by simp <;> omega)]; exact h6) hh
      refine ⟨?_, d2⟩
      rw [d1, aG_n (m := 4 * κ + c) (by rw [zi_add (zi_mul hκ four (by omega) (by omega)) hc (by omega) (by omega)]; omega), FM_a fx (by simp <;> omega)]
    rw [FM_r f2 (by simp), h0] at h
    have h := use_p S2 h (fun _ _ y => cell wa 2 2 _ _ _ f2 two32 (by decide) y)
    have h := h _ rfl
    obtain ⟨xn, hxn⟩ : ∃ xn, xn = (gA w (v + 4)).getD (4 * κ + 2) 0 := ⟨_, rfl⟩
    obtain ⟨xa, hxa⟩ : ∃ xa, xa = (gA w (v + 4)).getD (4 * κ + 0) 0 := ⟨_, rfl⟩
    obtain ⟨xb, hxb⟩ : ∃ xb, xb = (gA w (v + 4)).getD (4 * κ + 1) 0 := ⟨_, rfl⟩
    rw [← hxn] at h hN
    have f3' : FM slF [66, 67] wa (sI wa 55 2 xn) := FM_sI S2 (by decide)
    have g2 : gI (sI wa 55 2 xn) 55 2 = xn := gI_sI (SK_isF S2 (by decide +kernel))
    have g0b : gR (sI wa 55 2 xn) 55 0 = 33 := by rw [gR_sI]; exact g0
    have g1b : gI (sI wa 55 2 xn) 55 1 = p3 := by rw [gI_sI_ne (by decide)]; exact g1
    have f3 := FM_trans f2 f3'
    obtain ⟨wb, hwb⟩ : ∃ wb, wb = sI wa 55 2 xn := ⟨_, rfl⟩
    rw [← hwb] at h f3 g2 g0b g1b
    have S3 := f3.2.2.2
    rw [FM_r f3 (by simp), h0] at h
    have h := use_p S3 h (fun _ _ y => cell wb 0 0 _ _ _ f3 z32 (by decide) y)
    obtain ⟨_, h⟩ := h
    have h := h _ rfl
    rw [← hxa] at h hA
    have f4' : FM [] [66] wb (aS wb 66 0 xa) := FM_aS S3 (by decide)
    have m4 := fun i => aS66 (x := xa) S3 (d := 0) z32 (by decide) i
    have f4 := FM_trans f3 (FM_mono f4' (by intro p hp; cases hp) (by decide) : FM slF [66, 67] wb (aS wb 66 0 xa))
    obtain ⟨wc, hwc⟩ : ∃ wc, wc = aS wb 66 0 xa := ⟨_, rfl⟩
    rw [← hwc] at h f4 f4' m4
    have S4 := f4.2.2.2
    rw [FM_r f4 (by simp), h0] at h
    have h := use_p S4 h (fun _ _ y => cell wc 1 1 _ _ _ f4 o32 (by decide) y)
    obtain ⟨_, h⟩ := h
    have h := h _ rfl
    rw [← hxb] at h hB
    have f5' : FM [] [66] wc (aS wc 66 1 xb) := FM_aS S4 (by decide)
    have m5 := fun i => aS66 (x := xb) S4 (d := 1) o32 (by decide) i
    have f5 := FM_trans f4 (FM_mono f5' (by intro p hp; cases hp) (by decide) : FM slF [66, 67] wc (aS wc 66 1 xb))
    obtain ⟨wd, hwd⟩ : ∃ wd, wd = aS wc 66 1 xb := ⟨_, rfl⟩
    rw [← hwd] at h f5 f5' m5
    have S5 := f5.2.2.2
    have h := h _ rfl
    have f6' : FM [(55, 6)] [] wd (sI wd 55 6 0) := FM_sI S5 (by decide)
    have g6 : gI (sI wd 55 6 0) 55 6 = 0 := gI_sI (SK_isF S5 (by decide +kernel))
    have f6 := FM_trans f5 (FM_mono f6' (by decide) (by intro p hp; cases hp) : FM slF [66, 67] wd (sI wd 55 6 0))
    obtain ⟨we, hwe⟩ : ∃ we, we = sI wd 55 6 0 := ⟨_, rfl⟩
    rw [← hwe] at h f6 f6' g6
    have S6 := f6.2.2.2
    obtain ⟨_, _, h⟩ := h
    have pa : (gA we 66).getD 0 0 = xa := by rw [FM_a f6' (by simp), m5, if_neg (by decide), m4, if_pos rfl]
    have pb : (gA we 66).getD 1 0 = xb := by rw [FM_a f6' (by simp), m5, if_pos rfl]
    have ea : aG we 66 0 = xa := by rw [aG_n (m := 0) z32]; exact pa
    have eb : aG we 66 1 = xb := by rw [aG_n (m := 1) o32]; exact pb
    rw [ea, eb] at h
    have hv' : gR we 33 0 = v := by rw [FM_r f6 (by simp)]; exact h0
    have h := use_p S6 h (fun _ _ y => F77n S6 (by decide +kernel) okv hv' hA hB (by omega) (by omega) y)
    have ff : FM [(55, 6)] [66] wb we := FM_trans (FM_mono f4' (by intro p hp; cases hp) (by decide)) (FM_trans (FM_mono f5' (by intro p hp; cases hp) (by decide)) (FM_mono f6' (by decide) (by intro p hp; cases hp)))
    have hC : SRC we v P y p3 fe rk := by
      refine ⟨by rw [FM_r ff (by simp)]; exact g0b, hv', v30, by rw [FM_i f6 (by simp <;> omega)]; exact hP, hP9, by rw [FM_r f6 (by simp <;> omega)]; exact h5, by rw [FM_i ff (by simp)]; exact g1b, by rw [FM_i ff (by simp), g2]; exact hN, fun p hp => ?_, fun p hp => ?_⟩
      · rw [FM_a f6 (by simp)]; exact hfe p hp
      · rw [FM_a f6 (by simp <;> omega)]; exact hrk p hp
    have hRR : ∀ i j, (rmI (vcl we v) (dA we 33) i j).toInt = (rmI (vcl w v) (dA w 33) i j).toInt := fun i j => by
      rw [show dA we 33 = dA w 33 from by funext q; unfold dA; rw [FM_a f6 (by decide)], show vcl we v = vcl w v from by
        funext q
        exact vcl_FMv hS f6 okv (by simp <;> omega) (by simp <;> omega) (by simp <;> omega) (by simp <;> omega) (by simp <;> omega) (by simp <;> omega) (by simp <;> omega) q]
    have g2e : (gI we 55 2).toInt = y := hC.2.2.2.2.2.2.2.1
    have out : ∀ wz, FM slF [66, 67] w wz → SRC wz v P y p3 fe rk → SBw wz P p3 fe rk a b (VRg (fun i j => (rmI (vcl w v) (dA w 33) i j).toInt) P y a b) → (if (gI wz 55 6) ≤ 0 then (r = some (.int 0) ∧ w' = wz) else (r = some (.int 1) ∧ w' = wz)) → FM slF [66, 67] w w' ∧ SRC w' v P y p3 fe rk ∧ SBw w' P p3 fe rk a b (VRg (fun i j => (rmI (vcl w v) (dA w 33) i j).toInt) P y a b) ∧ (((gI w' 55 6).toInt = 0 ∧ r = some (.int 0)) ∨ (0 < (gI w' 55 6).toInt ∧ r = some (.int 1))) := by
      intro wz fz hz hb hh
      have nn : 0 ≤ (gI wz 55 6).toInt := by
        rcases hb with ⟨q, _⟩ | ⟨m, c, _, _, q, _⟩ <;> omega
      by_cases c : gI wz 55 6 ≤ 0
      · rw [if_pos c] at hh
        rw [Int32.le_iff_toInt_le, z32] at c
        rw [hh.2]
        exact ⟨fz, hz, hb, Or.inl ⟨by omega, hh.1⟩⟩
      · rw [if_neg c] at hh
        rw [Int32.le_iff_toInt_le, z32] at c
        rw [hh.2]
        exact ⟨fz, hz, hb, Or.inr ⟨by omega, hh.1⟩⟩
    by_cases cr : rmI (vcl we v) (dA we 33) a b < gI we 55 2
    · rw [if_pos cr] at h
      rw [Int32.lt_iff_toInt_lt, g2e, hRR] at cr
      refine out we f6 hC (Or.inl ⟨by rw [g6, z32], fun m c q => ?_⟩) h
      have := (VPr_2.mp (VRg_2 q)).2.2.2
      omega
    · rw [if_neg cr] at h
      rw [Int32.lt_iff_toInt_lt, g2e, hRR] at cr
      obtain ⟨_, _, q19, w20, y20, h⟩ := h
      have hm := MSK_cg (MSK_or (MSK_b hA (show a < 9 by omega) (by decide)) (MSK_b hB (show b < 9 by omega) (by decide))) (fun q _ => snN_2 q)
      obtain ⟨b1, b2, _, b4⟩ := (F135_l (a := a) (b := b) S6 hC okv (fun i j => (hRR i j).symm) k).1 we 2 0 (fun _ _ => False) 2 _ _ _ (FM_refl S6) two32 (Nat.le_refl 2) (by decide) (by decide) (VPr_2.mpr ⟨ha, hb, hab, by show y ≤ (rmI (vcl w v) (dA w 33) a b).toInt; omega⟩) (fun i hi => by
        have c : i = 0 ∨ i = 1 := by omega
        rcases c with rfl | rfl
        · rw [pa]; exact hA
        · rw [pb]; exact hB) hm (Or.inl ⟨by rw [g6, z32], fun _ _ q => q⟩) (fun _ _ q => q.elim) (by rw [ea, eb] at y20; exact y20)
      have h := h b1 b2.2.2.2
      refine out w20 (FM_trans f6 (FM_mono b2 (by decide) (fun _ h => h))) (SRC_fm hC b2 (by decide) (by decide)) (SBw_cg (fun m x => ?_) b4) h
      rw [EXr_2]
      exact ⟨fun q => q.elim (fun q => q.elim) id, Or.inr⟩
end JIA
