/-! ===== state: worst ===== -/
section KBA
variable {X : pm_X} {k k2 : Nat} {w0 w w1 w2 w3 w4 w5 wj w' : pm_W} {r r2 q0 q1 q2 : Option Value} {p1 p2 p3 p4 p5 p i1 i2 i3 i4 i5 i6 i7 i8 z z1 z2 x n : Int32} {a i v j m u P t s b d q N K B : Nat} {y : Int} {D D' V V' G G' : Nat → Int32}
/-- what is left when p fails -/
def lfF (P N : Nat) (D G : Nat → Int32) (p : Nat) : Int32 := f32 (zrL p P (flS (cF p) N (D, G)).1) 81
/-- worst of the first t, what is left then -/
def wsF (l : Nat → Int32) : Nat → Int32 × Int32
  | 0 => (0, 0)
  | t + 1 => if t = 0 ∨ (l t).toInt < (wsF l t).2.toInt then (Int32.ofNat t, l t) else wsF l t
theorem wsF_t {l : Nat → Int32} (h : t = 0 ∨ (l t).toInt < (wsF l t).2.toInt) : wsF l (t + 1) = (Int32.ofNat t, l t) := if_pos h
theorem wsF_f {l : Nat → Int32} (h : ¬ (t = 0 ∨ (l t).toInt < (wsF l t).2.toInt)) : wsF l (t + 1) = wsF l t := if_neg h
theorem lfF_b (hP : P ≤ 9) (hW : WS P N (D, G)) (hp : t < P) : 0 ≤ (lfF P N D G t).toInt ∧ (lfF P N D G t).toInt ≤ 99 * 81 := by
  have w := (WS_flS (c := cF t) hP hW N (Nat.le_refl N)).1
  have wz := WD_zrL (m := t) (n := P) (by omega) w hP
  have q := f32_i wz.1 81 (Nat.le_refl _)
  exact ⟨q.2.1, q.2.2⟩
/-- a state copied, the class -/
theorem F119 (hS : SK w) (hN : (gI w 33 2).toInt = N) (hN37 : N ≤ 37) (h : PS X k 119 0 [.ref 46, .ref 33] [] w r w') : r = none ∧ FM [(46, 0), (46, 1), (46, 2)] [52, 53] w w' ∧ gR w' 46 0 = gR w 33 0 ∧ (gI w' 46 2).toInt = N ∧ dA w' 46 = dA w 33 ∧ ∀ q, q < 10 * N → gAr w' 46 q = gAr w 33 q := by
  have o33 := okS_r hS (a := 33) (by decide +kernel)
  cases k with
  | zero => exact (PS_0 h).elim
  | succ k =>
    have h := U119_0 hS h _ rfl _ rfl _ rfl
    have f1 : FM [(46, 0), (46, 1), (46, 2)] [52, 53] w (sR w 46 0 (gR w 33 0)) := FM_sR hS (by decide +kernel) (by decide)
    have S1 := f1.2.2.2
    have g1 : gR (sR w 46 0 (gR w 33 0)) 46 0 = gR w 33 0 := gR_sR hS (by decide +kernel)
    have b1 : ∀ c, gI (sR w 46 0 (gR w 33 0)) 33 c = gI w 33 c := fun c => FM_i f1 (by simp)
    obtain ⟨wa, hwa⟩ : ∃ wa, wa = sR w 46 0 (gR w 33 0) := ⟨_, rfl⟩
    rw [← hwa] at h f1 S1 g1 b1
    have f2 : FM [(46, 1)] [] wa (sI wa 46 1 (gI wa 33 1)) := FM_sI S1 (by decide)
    have S2 := f2.2.2.2
    obtain ⟨wb, hwb⟩ : ∃ wb, wb = sI wa 46 1 (gI wa 33 1) := ⟨_, rfl⟩
    rw [← hwb] at h f2 S2
    have f3 : FM [(46, 2)] [] wb (sI wb 46 2 (gI wb 33 2)) := FM_sI S2 (by decide)
    have S3 := f3.2.2.2
    have g3 : gI (sI wb 46 2 (gI wb 33 2)) 46 2 = gI w 33 2 := by rw [gI_sI (SK_isF S2 (by decide +kernel)), FM_i f2 (by decide), b1]
    obtain ⟨wc, hwc⟩ : ∃ wc, wc = sI wb 46 2 (gI wb 33 2) := ⟨_, rfl⟩
    rw [← hwc] at h f3 S3 g3
    obtain ⟨x3, x4, _⟩ := okS_r S3 (a := 33) (by decide +kernel)
    obtain ⟨y3, y4, _⟩ := okS_r S3 (a := 46) (by decide +kernel)
    rw [x3, y3] at h
    obtain ⟨hc1, h⟩ := h
    have h := h _ rfl
    have f4 : FM [] [52] wc (cpS wc (33 + 6) (46 + 6) 0 0 81) := FM_cpS hc1 S3 (by decide)
    have S4 := f4.2.2.2
    have A4 := cpS_A hc1 (SK_isA S3 (by decide +kernel))
    obtain ⟨wd, hwd⟩ : ∃ wd, wd = cpS wc (33 + 6) (46 + 6) 0 0 81 := ⟨_, rfl⟩
    rw [← hwd] at h f4 S4 A4
    obtain ⟨x3', x4', _⟩ := okS_r S4 (a := 33) (by decide +kernel)
    obtain ⟨y3', y4', _⟩ := okS_r S4 (a := 46) (by decide +kernel)
    rw [x4', y4'] at h
    obtain ⟨hc2, h⟩ := h
    obtain ⟨h0, h⟩ := h _ rfl
    have g4 : gI wd 46 2 = gI w 33 2 := by rw [FM_i f4 (by simp)]; exact g3
    rw [g4] at hc2 h
    have f5 : FM [] [53] wd (cpS wd (33 + 7) (46 + 7) 0 0 (gI w 33 2 * 10)) := FM_cpS hc2 S4 (by decide)
    have S5 := f5.2.2.2
    have A5 := cpS_A hc2 (SK_isA S4 (by decide +kernel))
    rw [h]
    have fa : FM [(46, 0), (46, 1), (46, 2)] [52, 53] w wc := FM_trans f1 (FM_trans (FM_mono f2 (by decide) (by decide)) (FM_mono f3 (by decide) (by decide)))
    have fd : FM [(46, 0), (46, 1), (46, 2)] [52, 53] w wd := FM_trans fa (FM_mono f4 (by intro p hp; cases hp) (by decide))
    have l39 : (gA wc (33 + 6)).length = 81 := (okS_r S3 (a := 33) (by decide +kernel)).2.2.2.2.2.2.2.2.1
    have l52 : (gA wc (46 + 6)).length = 81 := (okS_r S3 (a := 46) (by decide +kernel)).2.2.2.2.2.2.2.2.1
    have l40 : (gA wd (33 + 7)).length = 370 := (okS_r S4 (a := 33) (by decide +kernel)).2.2.2.2.2.2.2.2.2.1
    have l53 : (gA wd (46 + 7)).length = 370 := (okS_r S4 (a := 46) (by decide +kernel)).2.2.2.2.2.2.2.2.2.1
    have e10 : (gI w 33 2 * 10).toInt = (N * 10 : Nat) := by rw [zi_mul hN ten32 (by omega) (by omega)]; omega
    refine ⟨h0, FM_trans fd (FM_mono f5 (by intro p hp; cases hp) (by decide)), ?_, ?_, ?_, fun q hq => ?_⟩
    · rw [FM_r f5 (by simp), FM_r f4 (by simp), FM_r f3 (by decide), FM_r f2 (by decide)]
      exact g1
    · rw [FM_i f5 (by simp), g4]
      exact hN
    · funext q
      unfold dA
      rw [FM_a f5 (by decide), A4, z32, e81i]
      by_cases c : q < 81
      · rw [cpy_getF (by rw [l39]; decide) (by rw [l52]; decide), if_pos (by omega), FM_a fa (by decide)]
        show (gA w (33 + 6)).getD (0 + (q - 0)) 0 = _
        rw [show 0 + (q - 0) = q by omega]
      · rw [cpy_getF (by rw [l39]; decide) (by rw [l52]; decide), if_neg (by omega)]
        rw [List.getD_eq_getElem?_getD, List.getElem?_eq_none (by rw [l52]; omega), List.getD_eq_getElem?_getD, List.getElem?_eq_none (by rw [o33.2.2.2.2.2.2.2.2.1]; omega)]
    · unfold gAr
      rw [A5, z32, e10, cpy_getF (by rw [l40]; omega) (by rw [l53]; omega), if_pos (by omega), FM_a fd (by decide)]
      show (gA w (33 + 7)).getD (0 + (q - 0)) 0 = _
      rw [show 0 + (q - 0) = q by omega]
theorem F118 (hS : SK w) (hv : gR w 33 0 = v) (hv30 : v < 30) (hP : (gI w v 0).toInt = P) (hP9 : P ≤ 9) (hN : (gI w 33 2).toInt = N) (hN37 : N ≤ 37) (hW : WS P N (sAg w 33)) (h : PS X k 118 0 [.ref 42, .ref 33, pm_dead, pm_dead, pm_dead, pm_dead] [] w r w') : r = some (.int (wsF (lfF P N (dA w 33) (gAr w 33)) P).1) ∧ FM [(46, 0), (46, 1), (46, 2)] [52, 53] w w' := by
  have lp : ∀ (k t : Nat) (wk : pm_W) (i2 i3 i4 : Int32) (u5 : Value), FM [(46, 0), (46, 1), (46, 2)] [52, 53] w wk → i4.toInt = t → t ≤ P → i2 = (wsF (lfF P N (dA w 33) (gAr w 33)) t).1 → i3 = (wsF (lfF P N (dA w 33) (gAr w 33)) t).2 → PS X k 118 7 [.ref 42, .ref 33, .int i2, .int i3, .int i4, u5] [] wk r w' → r = some (.int (wsF (lfF P N (dA w 33) (gAr w 33)) P).1) ∧ FM [(46, 0), (46, 1), (46, 2)] [52, 53] w w' := by
    intro k
    induction k with
    | zero => intro t wk i2 i3 i4 u5 _ _ _ _ _ h; exact (PS_0 h).elim
    | succ k ih =>
      intro t wk i2 i3 i4 u5 fm h4 ht e2 e3 h
      have S1 : SK wk := fm.2.2.2
      have h := U118_7 S1 h
      have hvk : gR wk 33 0 = v := by rw [FM_r fm (by decide)]; exact hv
      have n46 : ∀ c, (v, c) ∉ [(46, 0), (46, 1), (46, 2)] := fun c hc => by simp at hc; omega
      have hPk : (gI wk v 0).toInt = P := by rw [FM_i fm (n46 0)]; exact hP
      rw [hvk] at h
      by_cases cl : gI wk v 0 ≤ i4
      · rw [if_pos cl] at h
        rw [Int32.le_iff_toInt_le, hPk, h4] at cl
        rw [show t = P by omega] at e2
        rw [h.2, ← e2]
        exact ⟨h.1, fm⟩
      · rw [if_neg cl] at h
        rw [Int32.le_iff_toInt_le, hPk, h4] at cl
        have htP : t < P := by omega
        have e1 : (i4 + 1).toInt = ((t + 1 : Nat) : Int) := by rw [zi_inc (n := 40) (by omega) (by omega), h4]; rfl
        obtain ⟨r1, w2, y1, h⟩ := h
        obtain ⟨a1, f2, a3, a4, a5, a6⟩ := F119 S1 (by rw [FM_i fm (by decide)]; exact hN) hN37 y1
        have S2 := f2.2.2.2
        obtain ⟨r3, w4, y3, h⟩ := h a1 S2
        have dk : dA wk 33 = dA w 33 := by funext q; unfold dA; rw [FM_a fm (by decide)]
        have gk : gAr wk 33 = gAr w 33 := by funext q; unfold gAr; rw [FM_a fm (by decide)]
        rw [dk] at a5
        rw [gk] at a6
        have hW33 : WS P N (dA w 33, gAr w 33) := hW
        have hW2 : WS P N (sAg w2 46) := ⟨by show WD P (dA w2 46); rw [a5]; exact hW33.1, fun K hK => WR_cg (hW33.2 K hK) (fun q _ hq => a6 q (by omega))⟩
        have rg : RG2 N (gAr w 33) (gAr w2 46) := fun K hK i hi => a6 _ (by
          have : (gAr w 33 (10 * K)).toInt ≤ 6 := (hW33.2 K hK).2.1
          unfold rMy at hi
          omega)
        obtain ⟨f4, alt⟩ := F86 (N := N) (P := P) (m := t) S2 (by decide +kernel) hP9 hN37 hW2 (by rw [a3, hvk, FM_i f2 (n46 0)]; exact hPk) a4 h4 y3
        have S4 := f4.2.2.2
        rcases alt with ⟨q, _⟩ | ⟨_, b1, b2, _⟩
        · omega
        · obtain ⟨r6, w7, y6, h⟩ := h _ b1 S4
          obtain ⟨c1, c2⟩ := F105 S4 (by decide +kernel) y6
          have h := h _ c1 (by rw [c2]; exact S4)
          rw [c2] at h
          have eL : f32 (dA w4 46) 81 = lfF P N (dA w 33) (gAr w 33) t := by
            rw [b2]
            unfold lfF
            have q := (flS_RG (c := cF t) hP9 rg hW33 (fun G1 G2 hg K hK => cF_RG hg hK) N (Nat.le_refl N)).1
            rw [show sAg w2 46 = (dA w 33, gAr w2 46) from by unfold sAg; rw [a5], q]
          rw [eL] at h
          have f04 : FM [(46, 0), (46, 1), (46, 2)] [52, 53] w w4 := FM_trans fm (FM_trans f2 (FM_mono f4 (by intro p hp; cases hp) (by decide)))
          have z4 : i4 = 0 ↔ t = 0 := by
            constructor
            · intro e; rw [e, z32] at h4; omega
            · intro e; exact Int32.toInt_inj.mp (by rw [h4, z32, e]; rfl)
          by_cases c0 : i4 = 0
          · rw [if_pos c0] at h
            have q := wsF_t (l := lfF P N (dA w 33) (gAr w 33)) (t := t) (Or.inl (z4.mp c0))
            exact ih (t + 1) w4 _ _ _ _ f04 e1 (by omega) (by rw [q]; exact i32_of h4 (by omega)) (by rw [q]) h
          · rw [if_neg c0] at h
            by_cases c1 : i3 ≤ lfF P N (dA w 33) (gAr w 33) t
            · rw [if_pos c1] at h
              rw [Int32.le_iff_toInt_le, e3] at c1
              have q := wsF_f (l := lfF P N (dA w 33) (gAr w 33)) (t := t) (fun z => by
                rcases z with z | z
                · exact c0 (z4.mpr z)
                · omega)
              exact ih (t + 1) w4 _ _ _ _ f04 e1 (by omega) (by rw [q]; exact e2) (by rw [q]; exact e3) h
            · rw [if_neg c1] at h
              rw [Int32.le_iff_toInt_le, e3] at c1
              have q := wsF_t (l := lfF P N (dA w 33) (gAr w 33)) (t := t) (Or.inr (by omega))
              exact ih (t + 1) w4 _ _ _ _ f04 e1 (by omega) (by rw [q]; exact i32_of h4 (by omega)) (by rw [q]) h
  cases k with
  | zero => exact (PS_0 h).elim
  | succ k => exact lp k 0 w 0 0 0 _ (FM_refl hS) z32 (Nat.zero_le _) rfl rfl (U118_0 hS h)
theorem l152 (hS : SK w) : (gA w 152).length = 81 := SK_len hS (a := 152) (n := 81) (by decide +kernel) (by decide)
theorem l153 (hS : SK w) : (gA w 153).length = 400 := SK_len hS (a := 153) (n := 400) (by decide +kernel) (by decide)
theorem l156 (hS : SK w) : (gA w 156).length = 81 := SK_len hS (a := 156) (n := 81) (by decide +kernel) (by decide)
theorem l157 (hS : SK w) : (gA w 157).length = 400 := SK_len hS (a := 157) (n := 400) (by decide +kernel) (by decide)
theorem dR_hi (hS : SK w) (h : 81 ≤ q) : dR w q = 0 := by
  unfold dR
  rw [List.getD_eq_getElem?_getD, List.getElem?_eq_none (by rw [l152 hS]; exact h)]
  rfl
theorem gRr_hi (hS : SK w) (h : 400 ≤ q) : gRr w q = 0 := by
  unfold gRr
  rw [List.getD_eq_getElem?_getD, List.getElem?_eq_none (by rw [l153 hS]; exact h)]
  rfl
theorem F262 (hS : SK w) (hp : p1.toInt = (610 + 132 * u : Nat)) (hP : (al w (610 + 132 * u)).toInt = P) (hP9 : P ≤ 9) (hN : (gI w 147 14).toInt = N) (hN37 : N ≤ 37) (hW : WS P N (sR2 w)) (h : PS X k 262 0 [.ref 147, .int p1, pm_dead, pm_dead, pm_dead, pm_dead, pm_dead] [] w r w') : SK w' ∧ r = some (.int (wsF (lfF P N (dR w) (gRr w)) P).1) := by
  have e400 : (400 : Int32).toInt = 400 := by decide +kernel
  have e6 : (1000000 : Int32).toInt = 1000000 := by decide +kernel
  have hWp : WS P N (dR w, gRr w) := hW
  -- the world between two people
  have main : ∀ k : Nat, (∀ (t : Nat) (wk : pm_W) (i2 i3 i4 : Int32) (u5 u6 : Value), FM [] [152, 153, 156, 157] w wk → dR wk = dR w → gRr wk = gRr w → (∀ q, q < 81 → (gA wk 156).getD q 0 = dR w q) → (∀ q, q < 400 → (gA wk 157).getD q 0 = gRr w q) → i4.toInt = t → t ≤ P → ((t = 0 ∧ i2 = 0 ∧ i3 = 1000000) ∨ (t ≠ 0 ∧ i2 = (wsF (lfF P N (dR w) (gRr w)) t).1 ∧ i3 = (wsF (lfF P N (dR w) (gRr w)) t).2)) → PS X k 262 69 [.ref 147, .int p1, .int i2, .int i3, .int i4, u5, u6] [] wk r w' → SK w' ∧ (0 < P → r = some (.int (wsF (lfF P N (dR w) (gRr w)) P).1)) ∧ (P = 0 → r = some (.int 0))) ∧
      (∀ (t j : Nat) (wk : pm_W) (i2 i3 i4 i5 i6 : Int32), FM [] [152, 153, 156, 157] w wk → (∀ q, q < j → dR wk q = dR w q) → (∀ q, q < 81 → (gA wk 156).getD q 0 = dR w q) → (∀ q, q < 400 → (gA wk 157).getD q 0 = gRr w q) → i4.toInt = t → t < P → i6.toInt = j → j ≤ 81 → i2 = (wsF (lfF P N (dR w) (gRr w)) (t + 1)).1 → i3 = (wsF (lfF P N (dR w) (gRr w)) (t + 1)).2 → PS X k 262 117 [.ref 147, .int p1, .int i2, .int i3, .int i4, .int i5, .int i6] [] wk r w' → SK w' ∧ (0 < P → r = some (.int (wsF (lfF P N (dR w) (gRr w)) P).1)) ∧ (P = 0 → r = some (.int 0))) ∧
      (∀ (t j : Nat) (wk : pm_W) (i2 i3 i4 i5 i6 : Int32), FM [] [152, 153, 156, 157] w wk → dR wk = dR w → (∀ q, q < j → gRr wk q = gRr w q) → (∀ q, q < 81 → (gA wk 156).getD q 0 = dR w q) → (∀ q, q < 400 → (gA wk 157).getD q 0 = gRr w q) → i4.toInt = t → t < P → i6.toInt = j → j ≤ 400 → i2 = (wsF (lfF P N (dR w) (gRr w)) (t + 1)).1 → i3 = (wsF (lfF P N (dR w) (gRr w)) (t + 1)).2 → PS X k 262 147 [.ref 147, .int p1, .int i2, .int i3, .int i4, .int i5, .int i6] [] wk r w' → SK w' ∧ (0 < P → r = some (.int (wsF (lfF P N (dR w) (gRr w)) P).1)) ∧ (P = 0 → r = some (.int 0))) := by
    intro k
    induction k with
    | zero => exact ⟨fun _ _ _ _ _ _ _ _ _ _ _ _ _ _ _ h => (PS_0 h).elim, fun _ _ _ _ _ _ _ _ _ _ _ _ _ _ _ _ _ _ h => (PS_0 h).elim, fun _ _ _ _ _ _ _ _ _ _ _ _ _ _ _ _ _ _ _ h => (PS_0 h).elim⟩
    | succ k ih =>
      obtain ⟨ih69, ih117, ih147⟩ := ih
      refine ⟨fun t wk i2 i3 i4 u5 u6 fm hd hg h156 h157 h4 ht hi h => ?_, fun t j wk i2 i3 i4 i5 i6 fm hd h156 h157 h4 ht h6 hj e2 e3 h => ?_, fun t j wk i2 i3 i4 i5 i6 fm hd hg h156 h157 h4 ht h6 hj e2 e3 h => ?_⟩
      · have S1 : SK wk := fm.2.2.2
        obtain ⟨_, h⟩ := U262_69 S1 h
        have eP : aG wk 148 p1 = al w (610 + 132 * u) := by
          rw [aG_n (m := 610 + 132 * u) hp]
          show al wk _ = _
          rw [al_FM fm (by decide)]
        rw [eP] at h
        by_cases cl : al w (610 + 132 * u) ≤ i4
        · rw [if_pos cl] at h
          rw [Int32.le_iff_toInt_le, hP, h4] at cl
          have et : t = P := by omega
          rcases hi with ⟨a1, a2, a3⟩ | ⟨a1, a2, a3⟩
          · exact ⟨by rw [h.2]; exact S1, fun q => by omega, fun _ => by rw [h.1, a2]⟩
          · rw [et] at a2
            exact ⟨by rw [h.2]; exact S1, fun _ => by rw [h.1, a2], fun q => by omega⟩
        · rw [if_neg cl] at h
          rw [Int32.le_iff_toInt_le, hP, h4] at cl
          have htP : t < P := by omega
          obtain ⟨r1, w2, y1, h⟩ := h
          have eS : sR2 wk = (dR w, gRr w) := by unfold sR2; rw [hd, hg]
          obtain ⟨a1, f2, a3, a4⟩ := F238 (N := N) (P := P) (m := t) S1 hP9 hN37 (by rw [eS]; exact hWp) (by rw [FM_i fm (by simp)]; exact hN) h4 (by omega) y1
          have S2 := f2.2.2.2
          obtain ⟨r3, w4, y3, h⟩ := h a1 S2
          obtain ⟨c1, c2⟩ := F252 S2 y3
          have h := h _ c1 (by rw [c2]; exact S2)
          rw [c2] at h
          have hWf := (WS_flS (c := cF t) hP9 hWp N (Nat.le_refl N)).1
          have eL : f32 (dR w2) 81 = lfF P N (dR w) (gRr w) t := by
            rw [a3, eS]
            unfold lfF
            rw [zrL_9 hP9 htP hWf (fun q hq => by rw [flS_hi hP9 hWp hq N (Nat.le_refl N)]; exact dR_hi hS hq)]
          rw [eL] at h
          have f02 : FM [] [152, 153, 156, 157] w w2 := FM_trans fm (FM_mono f2 (by intro p hp; cases hp) (by decide))
          have k156 : ∀ q, q < 81 → (gA w2 156).getD q 0 = dR w q := fun q hq => by rw [FM_a f2 (by decide)]; exact h156 q hq
          have k157 : ∀ q, q < 400 → (gA w2 157).getD q 0 = gRr w q := fun q hq => by rw [FM_a f2 (by decide)]; exact h157 q hq
          have lb := lfF_b hP9 hWp htP
          have up : t = 0 ∨ (lfF P N (dR w) (gRr w) t).toInt < (wsF (lfF P N (dR w) (gRr w)) t).2.toInt → PS X k 262 117 [.ref 147, .int p1, .int i4, .int (lfF P N (dR w) (gRr w) t), .int i4, .int (lfF P N (dR w) (gRr w) t), .int 0] [] w2 r w' → SK w' ∧ (0 < P → r = some (.int (wsF (lfF P N (dR w) (gRr w)) P).1)) ∧ (P = 0 → r = some (.int 0)) := fun c hh => by
            have q := wsF_t (l := lfF P N (dR w) (gRr w)) (t := t) c
            exact ih117 t 0 w2 _ _ i4 _ 0 f02 (fun q hq => absurd hq (Nat.not_lt_zero q)) k156 k157 h4 htP z32 (Nat.zero_le _) (by rw [q]; exact i32_of h4 (by omega)) (by rw [q]) hh
          have st : ¬ (t = 0 ∨ (lfF P N (dR w) (gRr w) t).toInt < (wsF (lfF P N (dR w) (gRr w)) t).2.toInt) → PS X k 262 117 [.ref 147, .int p1, .int i2, .int i3, .int i4, .int (lfF P N (dR w) (gRr w) t), .int 0] [] w2 r w' → SK w' ∧ (0 < P → r = some (.int (wsF (lfF P N (dR w) (gRr w)) P).1)) ∧ (P = 0 → r = some (.int 0)) := fun c hh => by
            have q := wsF_f (l := lfF P N (dR w) (gRr w)) (t := t) c
            rcases hi with ⟨a1, a2, a3⟩ | ⟨a1, a2, a3⟩
            · exact absurd (Or.inl a1) c
            · exact ih117 t 0 w2 _ _ i4 _ 0 f02 (fun q hq => absurd hq (Nat.not_lt_zero q)) k156 k157 h4 htP z32 (Nat.zero_le _) (by rw [q]; exact a2) (by rw [q]; exact a3) hh
          by_cases c : i3 ≤ lfF P N (dR w) (gRr w) t
          · rw [if_pos c, if_pos c] at h
            rw [Int32.le_iff_toInt_le] at c
            refine st (fun z => ?_) h
            rcases hi with ⟨a1, a2, a3⟩ | ⟨a1, a2, a3⟩
            · rw [a3, e6] at c; omega
            · rw [a3] at c
              rcases z with z | z
              · exact a1 z
              · omega
          · rw [if_neg c, if_neg c] at h
            rw [Int32.le_iff_toInt_le] at c
            refine up ?_ h
            rcases hi with ⟨a1, a2, a3⟩ | ⟨a1, a2, a3⟩
            · exact Or.inl a1
            · rw [a3] at c
              exact Or.inr (by omega)
      · have S1 : SK wk := fm.2.2.2
        have h := U262_117 S1 h
        by_cases c : 81 ≤ i6
        · rw [if_pos c] at h
          rw [Int32.le_iff_toInt_le, e81i, h6] at c
          exact ih147 t 0 wk i2 i3 i4 i5 0 fm (by
            funext q
            by_cases cq : q < 81
            · exact hd q (by omega)
            · rw [dR_hi S1 (by omega), dR_hi hS (by omega)]) (fun q hq => absurd hq (Nat.not_lt_zero q)) h156 h157 h4 ht z32 (Nat.zero_le _) e2 e3 h
        · rw [if_neg c] at h
          rw [Int32.le_iff_toInt_le, e81i, h6] at c
          obtain ⟨_, _, h⟩ := h
          have h := h _ rfl
          refine ih117 t (j + 1) _ i2 i3 i4 i5 _ (FM_trans fm (FM_aS S1 (by decide))) (fun q hq => ?_) (fun q hq => by rw [gA_aS_ne (by decide)]; exact h156 q hq) (fun q hq => by rw [gA_aS_ne (by decide)]; exact h157 q hq) h4 ht (by rw [zi_inc (n := 1000) (by omega) (by omega), h6]; rfl) (by omega) e2 e3 h
          rw [dR_aS S1 h6 (by omega)]
          unfold updc
          by_cases e : q = j
          · rw [if_pos e, aG_n h6, h156 j (by omega), e]
          · rw [if_neg e]; exact hd q (by omega)
      · have S1 : SK wk := fm.2.2.2
        have h := U262_147 S1 h
        by_cases c : 400 ≤ i6
        · rw [if_pos c] at h
          rw [Int32.le_iff_toInt_le, e400, h6] at c
          exact ih69 (t + 1) wk i2 i3 _ _ _ fm hd (by
            funext q
            by_cases cq : q < 400
            · exact hg q (by omega)
            · rw [gRr_hi S1 (by omega), gRr_hi hS (by omega)]) h156 h157 (by rw [zi_inc (n := 1000) (by omega) (by omega), h4]; rfl) (by omega) (Or.inr ⟨Nat.succ_ne_zero t, e2, e3⟩) h
        · rw [if_neg c] at h
          rw [Int32.le_iff_toInt_le, e400, h6] at c
          obtain ⟨_, _, h⟩ := h
          have h := h _ rfl
          refine ih147 t (j + 1) _ i2 i3 i4 i5 _ (FM_trans fm (FM_aS S1 (by decide))) (by rw [dR_ne (by decide)]; exact hd) (fun q hq => ?_) (fun q hq => by rw [gA_aS_ne (by decide)]; exact h156 q hq) (fun q hq => by rw [gA_aS_ne (by decide)]; exact h157 q hq) h4 ht (by rw [zi_inc (n := 1000) (by omega) (by omega), h6]; rfl) (by omega) e2 e3 h
          rw [gRr_aS S1 h6 (by omega)]
          unfold updc
          by_cases e : q = j
          · rw [if_pos e, aG_n h6, h157 j (by omega), e]
          · rw [if_neg e]; exact hg q (by omega)
  have wrap : ∀ {k : Nat} {wk : pm_W} {u5 u6 : Value}, FM [] [152, 153, 156, 157] w wk → dR wk = dR w → gRr wk = gRr w → (∀ q, q < 81 → (gA wk 156).getD q 0 = dR w q) → (∀ q, q < 400 → (gA wk 157).getD q 0 = gRr w q) → PS X k 262 69 [.ref 147, .int p1, .int 0, .int 1000000, .int 0, u5, u6] [] wk r w' → SK w' ∧ r = some (.int (wsF (lfF P N (dR w) (gRr w)) P).1) := by
    intro k wk u5 u6 fm hd hg h1 h2 h
    obtain ⟨a0, a1, a2⟩ := (main k).1 0 wk 0 1000000 0 u5 u6 fm hd hg h1 h2 z32 (Nat.zero_le _) (Or.inl ⟨rfl, rfl, rfl⟩) h
    refine ⟨a0, ?_⟩
    rcases Nat.eq_zero_or_pos P with c | c
    · rw [a2 c, c]; rfl
    · exact a1 c
  have lp2 : ∀ (k j : Nat) (wk : pm_W) (i4 : Int32), FM [] [152, 153, 156, 157] w wk → dR wk = dR w → gRr wk = gRr w → (∀ q, q < 81 → (gA wk 156).getD q 0 = dR w q) → (∀ q, q < j → (gA wk 157).getD q 0 = gRr w q) → i4.toInt = j → j ≤ 400 → PS X k 262 38 [.ref 147, .int p1, .int 0, .int 1000000, .int i4, pm_dead, pm_dead] [] wk r w' → SK w' ∧ r = some (.int (wsF (lfF P N (dR w) (gRr w)) P).1) := by
    intro k
    induction k with
    | zero => intro j wk i4 _ _ _ _ _ _ _ h; exact (PS_0 h).elim
    | succ k ih =>
      intro j wk i4 fm hd hg h156 h157 h4 hj h
      have S1 : SK wk := fm.2.2.2
      have h := U262_38 S1 h
      by_cases c : 400 ≤ i4
      · rw [if_pos c] at h
        rw [Int32.le_iff_toInt_le, e400, h4] at c
        exact wrap fm hd hg h156 (fun q hq => h157 q (by omega)) h
      · rw [if_neg c] at h
        rw [Int32.le_iff_toInt_le, e400, h4] at c
        obtain ⟨_, _, h⟩ := h
        have h := h _ rfl
        refine ih (j + 1) _ _ (FM_trans fm (FM_aS S1 (by decide))) (by rw [dR_ne (by decide)]; exact hd) (by rw [gRr_ne (by decide)]; exact hg) (fun q hq => by rw [gA_aS_ne (by decide)]; exact h156 q hq) (fun q hq => ?_) (by rw [zi_inc (n := 1000) (by omega) (by omega), h4]; rfl) (by omega) h
        rw [gA_aS (SK_isA S1 (by decide +kernel)), i_nat h4, getD_set (by rw [l157 S1]; omega)]
        by_cases e : q = j
        · rw [if_pos e, aG_n h4, e]
          show gRr wk j = _
          rw [hg]
        · rw [if_neg e]; exact h157 q (by omega)
  have lp1 : ∀ (k j : Nat) (wk : pm_W) (i4 : Int32), FM [] [152, 153, 156, 157] w wk → dR wk = dR w → gRr wk = gRr w → (∀ q, q < j → (gA wk 156).getD q 0 = dR w q) → i4.toInt = j → j ≤ 81 → PS X k 262 8 [.ref 147, .int p1, .int 0, .int 1000000, .int i4, pm_dead, pm_dead] [] wk r w' → SK w' ∧ r = some (.int (wsF (lfF P N (dR w) (gRr w)) P).1) := by
    intro k
    induction k with
    | zero => intro j wk i4 _ _ _ _ _ _ h; exact (PS_0 h).elim
    | succ k ih =>
      intro j wk i4 fm hd hg h156 h4 hj h
      have S1 : SK wk := fm.2.2.2
      have h := U262_8 S1 h
      by_cases c : 81 ≤ i4
      · rw [if_pos c] at h
        rw [Int32.le_iff_toInt_le, e81i, h4] at c
        exact lp2 k 0 wk 0 fm hd hg (fun q hq => h156 q (by omega)) (fun q hq => absurd hq (Nat.not_lt_zero q)) z32 (Nat.zero_le _) h
      · rw [if_neg c] at h
        rw [Int32.le_iff_toInt_le, e81i, h4] at c
        obtain ⟨_, _, h⟩ := h
        have h := h _ rfl
        refine ih (j + 1) _ _ (FM_trans fm (FM_aS S1 (by decide))) (by rw [dR_ne (by decide)]; exact hd) (by rw [gRr_ne (by decide)]; exact hg) (fun q hq => ?_) (by rw [zi_inc (n := 1000) (by omega) (by omega), h4]; rfl) (by omega) h
        rw [gA_aS (SK_isA S1 (by decide +kernel)), i_nat h4, getD_set (by rw [l156 S1]; omega)]
        by_cases e : q = j
        · rw [if_pos e, aG_n h4, e]
          show dR wk j = _
          rw [hd]
        · rw [if_neg e]; exact h156 q (by omega)
  cases k with
  | zero => exact (PS_0 h).elim
  | succ k => exact lp1 k 0 w 0 (FM_refl hS) rfl rfl (fun q hq => absurd hq (Nat.not_lt_zero q)) z32 (Nat.zero_le _) (U262_0 hS h)
end KBA
