/-! ===== the class reads a tape: a sentence, as the relation has it ===== -/
section GG
variable {X : pm_X} {k : Nat} {w0 w w' : pm_W} {r : Option Value} {p p1 p2 p3 f0 p0 f q : Int32} {bs : Nat → Int32} {n i v j m : Nat} {b : Bool} {c : Nat → Int32} {g : Int}
/-- the class's cells: a village's, the greatest; or a row's acts and parts -/
def CC (b : Bool) (w : pm_W) (c : Nat → Int32) (g : Int) : Prop := if b = true then (∀ k, vcl w 24 k = c k) ∧ (gI w 23 9).toInt = g else gI w 29 0 = c 0 ∧ ∀ q, q < 9 * (c 0).toInt.toNat → (gA w 30).getD q 0 = c (1 + q)
theorem CC_t : CC true w c g ↔ (∀ k, vcl w 24 k = c k) ∧ (gI w 23 9).toInt = g := by unfold CC; rw [if_pos rfl]
theorem CC_f : CC false w c g ↔ gI w 29 0 = c 0 ∧ ∀ q, q < 9 * (c 0).toInt.toNat → (gA w 30).getD q 0 = c (1 + q) := by unfold CC; rw [if_neg Bool.false_ne_true]
theorem vcl_FM {fs : List (Nat × Nat)} {as : List Nat} {w1 : pm_W} (hS : SK w) (fm : FM fs as w w1) (h0 : (24, 0) ∉ fs) (h1 : (24, 1) ∉ fs) (h2 : (24, 2) ∉ fs) (a5 : 25 ∉ as) (a6 : 26 ∉ as) (a7 : 27 ∉ as) (a8 : 28 ∉ as) (k : Nat) : vcl w1 24 k = vcl w 24 k := by
  rw [vcl_24 hS, vcl_24 fm.2.2.2, FM_i fm h0, FM_i fm h1, FM_i fm h2, FM_a fm a5, FM_a fm a6, FM_a fm a7, FM_a fm a8]
theorem CC_FM {fs : List (Nat × Nat)} {as : List Nat} {w1 : pm_W} (hS : SK w) (h : CC b w c g) (fm : FM fs as w w1) (h0 : (24, 0) ∉ fs) (h1 : (24, 1) ∉ fs) (h2 : (24, 2) ∉ fs) (h9 : (23, 9) ∉ fs) (h29 : (29, 0) ∉ fs) (a5 : 25 ∉ as) (a6 : 26 ∉ as) (a7 : 27 ∉ as) (a8 : 28 ∉ as) (a0 : 30 ∉ as) : CC b w1 c g := by
  cases b with
  | true =>
    rw [CC_t] at h ⊢
    exact ⟨fun k => (vcl_FM hS fm h0 h1 h2 a5 a6 a7 a8 k).trans (h.1 k), by rw [FM_i fm h9]; exact h.2⟩
  | false =>
    rw [CC_f] at h ⊢
    rw [FM_i fm h29, FM_a fm a0]
    exact h
def flR : List (Nat × Nat) := [(23, 5), (23, 6), (23, 7), (23, 8), (23, 9), (23, 10), (23, 11), (24, 0), (24, 1), (24, 2), (29, 0)]
def alR : List Nat := [25, 26, 27, 28, 30, 31]
theorem vcl_1 : vcl w 24 1 = gI w 24 2 := by
  unfold vcl
  rw [if_neg (by decide), if_pos rfl]
theorem vcl_0 : vcl w 24 0 = gI w 24 0 := by
  unfold vcl
  rw [if_pos rfl]
theorem tm_eq (h : CC b w c g) (hb1 : b = true → 6 ≤ v) (hb2 : b = false → v ≤ 5) : tooM w v = tmC b c v := by
  unfold tooM tmC
  cases b with
  | true =>
    rw [CC_t] at h
    have h6 := hb1 rfl
    show _ = (if v = 12 then decide (7 ≤ (c 1).toInt) else false)
    by_cases e : v = 12
    · rw [if_pos (by omega), if_pos e, ← h.1 1, vcl_1]
    · rw [if_neg (by omega), if_neg (by omega), if_neg e]
  | false =>
    rw [CC_f] at h
    have h5 := hb2 rfl
    show _ = decide (30 ≤ (c 0).toInt)
    rw [if_neg (by omega), if_pos (by omega), h.1]
theorem lw_p : lwL 7 0 = 0 ∧ lwH 7 0 = 8 ∧ lwL 7 1 = 0 ∧ lwH 7 1 = 8 ∧ lwL 12 0 = 0 ∧ lwH 12 0 = 8 ∧ lwL 12 1 = 0 ∧ lwH 12 1 = 8 ∧ lwL 9 0 = 0 ∧ lwH 9 0 = 8 ∧ lwL 10 0 = 0 ∧ lwH 10 0 = 8 := by decide +kernel
theorem good_of {f0 p0 : Int32} {ns : Nat → Int32} (ho : OK bs n i v m) (hz : (fJ bs n i v f0 p0 m).1 = 0) (hns : ∀ t, t < m → t < 8 → (ns t).toInt = nv bs n i t) : goodN v ns := by
  obtain ⟨l1, l2, l3, l4, l5, l6, l7, l8, l9, l10, l11, l12⟩ := lw_p
  refine ⟨fun e => ?_, fun e => ?_⟩
  · have hm : 2 ≤ m := by
      have := ho.2.1 (by omega)
      rcases e with e | e
      · rw [this, e]; decide +kernel
      · rw [this, e]; decide +kernel
    have r0 := fJ_rg hz (l := 0) (by omega)
    have r1 := fJ_rg hz (l := 1) (by omega)
    rw [hns 0 (by omega) (by decide), hns 1 (by omega) (by decide)]
    rcases e with e | e
    · subst e
      rw [l1, l2] at r0
      rw [l3, l4] at r1
      omega
    · subst e
      rw [l5, l6] at r0
      rw [l7, l8] at r1
      omega
  · have hm : 1 ≤ m := by
      have := ho.2.1 (by omega)
      rcases e with e | e
      · rw [this, e]; decide +kernel
      · rw [this, e]; decide +kernel
    have r0 := fJ_rg hz (l := 0) (by omega)
    rw [hns 0 (by omega) (by decide)]
    rcases e with e | e
    · subst e
      rw [l9, l10] at r0
      omega
    · subst e
      rw [l11, l12] at r0
      omega
theorem rowN_R {a : Nat} {pv : Int32} {cN ns : Nat → Int32} (hc : (c 0).toInt.toNat = a) (hpv : pv = Int32.ofNat v) (hN : ∀ q, q < 9 * a → cN q = c (1 + q)) (hns : ∀ t, t < m → t < 8 → ns t = ns32 bs n i t) (q : Nat) (hq : q < 9 * (a + 1)) : rowN cN a pv m ns q = rowR c (Int32.ofNat v) (e8 bs n i m) (1 + q) := by
  unfold rowN rowR
  rw [hc, if_neg (by omega : ¬ 1 + q = 0)]
  by_cases e1 : q = 9 * a
  · rw [if_pos e1, if_pos (by omega)]
    exact hpv
  · rw [if_neg e1, if_neg (by omega : ¬ 1 + q = 1 + 9 * a)]
    by_cases e2 : 9 * a + 1 ≤ q ∧ q < 9 * a + 9
    · rw [if_pos e2, if_pos (show 2 + 9 * a ≤ 1 + q ∧ 1 + q < 10 + 9 * a by omega), show 1 + q - (2 + 9 * a) = q - (9 * a + 1) by omega]
      unfold e8
      by_cases e3 : q < 9 * a + 1 + m
      · rw [if_pos e3, if_pos (show q - (9 * a + 1) < m by omega)]
        exact hns _ (by omega) (by omega)
      · rw [if_neg e3, if_neg (show ¬ q - (9 * a + 1) < m by omega)]
    · rw [if_neg e2, if_neg (show ¬ (2 + 9 * a ≤ 1 + q ∧ 1 + q < 10 + 9 * a) by omega)]
      exact hN q (by omega)
/-- a sentence -/
theorem CS_one (hX : XO X) (hb : b = decide (p1 = 0)) (h : CS w bs n i f p) (hc : CC b w c g) (q : PS X k 29 0 [.ref 23, .int p1, pm_dead, pm_dead, pm_dead] [] w r w') : FM flR alR w w' ∧ ((vbT b bs n i = -1 ∧ r = some (.int 0) ∧ gI w' 23 7 = pl bs n i) ∨ (∃ v m : Nat, vbT b bs n i = v ∧ FI bs n i v m ∧ r = some (.int 0) ∧ gI w' 23 7 = pl bs n (tP bs n i (m + 1))) ∨ (∃ v m : Nat, vbT b bs n i = v ∧ OK bs n i v m ∧ r = some (.int 1) ∧ CS w' bs n (tP bs n i (m + 2)) (fD b bs n i f p c v m).1 (fD b bs n i f p c v m).2 ∧ CC b w' (cD b bs n i f p c v m) (gD b bs n i f p c g v m))) := by
  have hh := h
  obtain ⟨hS, hT, hcb, hcn, hf, hp, hH, h4, n6, hi⟩ := h
  rcases F29 hX hh hb q with ⟨z1, z2, z3⟩ | ⟨v, pv, z1, z2, z3, z4, z5, z6, m, z7⟩
  · rw [z3]
    exact ⟨FM_refl hS, Or.inl ⟨z1, z2, i32_of hT.2.1 (by have := (tkN_n (bs := bs) hi).1; omega)⟩⟩
  · rw [tm_eq hc z3 z4] at z7
    rcases z7 with ⟨a1, a2, fm, a4, a5, a6, a7⟩ | ⟨a1, a2, w1, w2, ⟨fm, a4, a5, a6, a7⟩, f2, t2, z8⟩
    · exact ⟨FM_mono fm (by decide) (by decide), Or.inr (Or.inl ⟨v, m, z1, a1, a2, i32_of a4.2.1 (by have := (tkN_n (bs := bs) (tP_le (bs := bs) hi (m + 1))).1; omega)⟩)⟩
    · have fm2 : FM flR alR w w2 := FM_trans (FM_mono fm (by decide) (by decide)) (FM_mono f2 (by decide) (by decide))
      have f10 : gI w2 23 10 = (fD b bs n i f p c v m).1 := (FM_i f2 (by decide)).trans a5
      have f11 : gI w2 23 11 = (fD b bs n i f p c v m).2 := (FM_i f2 (by decide)).trans a6
      have cb2 : cb w2 = bs := ((cb_FM f2 (by decide) (by intro z; cases z)).trans (cb_FM fm (by decide) (by rw [h4]; decide))).trans hcb
      have cn2 : cn w2 = n := ((cn_FM f2 (by decide)).trans (cn_FM fm (by decide))).trans hcn
      have g42 : gR w2 23 3 = 4 := ((FM_r f2 (by decide)).trans (FM_r fm (by decide))).trans h4
      have H2 : HL w2 := HL_FM (HL_FM hH fm (by decide) (by decide) (by decide) (by decide) (by decide) (by decide) (by decide)) f2 (by decide) (by decide) (by decide) (by decide) (by decide) (by decide) (by decide)
      have CC2 : CC b w2 c g := CC_FM fm.2.2.2 (CC_FM hS hc fm (by decide) (by decide) (by decide) (by decide) (by decide) (by decide) (by decide) (by decide) (by decide) (by decide)) f2 (by decide) (by decide) (by decide) (by decide) (by decide) (by decide) (by decide) (by decide) (by decide) (by decide)
      have hle := tP_le (bs := bs) hi (m + 2)
      have cns2 : ∀ t, t < m → t < 8 → (cns w2 t).toInt = nv bs n i t := fun t h1 h2 => by
        have e : cns w2 t = cns w1 t := by unfold cns; rw [FM_a f2 (by decide)]
        rw [e]
        exact a7 t h1 h2
      rcases z8 with ⟨c1, c2⟩ | ⟨c1, c2⟩
      · subst c2
        rw [f10] at c1
        refine ⟨fm2, Or.inr (Or.inr ⟨v, m, z1, a1, a2, ⟨f2.2.2.2, t2, cb2, cn2, f10, f11, H2, g42, n6, hle⟩, ?_⟩)⟩
        unfold cD gD
        rw [if_neg c1, if_neg c1]
        exact CC2
      · rw [f10] at c1
        have c3 : (fJ bs n i v (ntF (tmC b c v) 3 f) (ntP (tmC b c v) (pl bs n i) f p) m).1 = 0 := c1
        have tmf := (ntF_z (by decide +kernel) (fJ_00 m c3)).2
        have gd := good_of a1 c3 cns2
        have fm3 : FM flR alR w2 w' := FM_mono c2.1 (by decide) (by decide)
        refine ⟨FM_trans fm2 fm3, Or.inr (Or.inr ⟨v, m, z1, a1, a2, ?_⟩)⟩
        have T3 : CTk w' bs n (tP bs n i (m + 2)) := CT_FM t2 c2.1 (by decide) (by decide) (by decide) (by decide)
        have cb3 : cb w' = bs := (cb_FM c2.1 (by decide) (by rw [g42]; decide)).trans cb2
        have cn3 : cn w' = n := (cn_FM c2.1 (by decide)).trans cn2
        have g43 : gR w' 23 3 = 4 := (FM_r c2.1 (by decide)).trans g42
        have d10 : gI w' 23 10 = (fD b bs n i f p c v m).1 := (FM_i c2.1 (by decide)).trans f10
        have d11 : gI w' 23 11 = (fD b bs n i f p c v m).2 := (FM_i c2.1 (by decide)).trans f11
        have fin : HL w' → CC b w' (stC b v c (e8 bs n i m)) (gS v g (e8 bs n i m)) → CS w' bs n (tP bs n i (m + 2)) (fD b bs n i f p c v m).1 (fD b bs n i f p c v m).2 ∧ CC b w' (cD b bs n i f p c v m) (gD b bs n i f p c g v m) := by
          intro y1 y2
          refine ⟨⟨c2.1.2.2.2, T3, cb3, cn3, d10, d11, y1, g43, n6, hle⟩, ?_⟩
          unfold cD gD
          rw [if_pos c1, if_pos c1]
          exact y2
        cases b with
        | true =>
          have v6 := z3 rfl
          rw [CC_t] at CC2
          obtain ⟨y1, y2, y3, y4⟩ := c2.2.2 v6 (fun e => by
            have tmf : (if v = 12 then decide (7 ≤ (c 1).toInt) else false) = false := tmf
            rw [if_pos e] at tmf
            have := of_decide_eq_false tmf
            have e1 := CC2.1 1
            rw [vcl_1] at e1
            rw [e1]
            omega) gd
          have hm : m = dueN v := a1.2.1 (by omega)
          have d8 : dueN v ≤ 4 := (dueN_i z2).2
          have ag : ∀ t, t < dueN v → cns w2 t = e8 bs n i m t := fun t ht => by rw [e8_ns (by omega)]; exact ns32_of (cns2 t (by omega) (by omega))
          refine fin y2 ?_
          rw [CC_t]
          refine ⟨fun k => ?_, ?_⟩
          · rw [y3 k, kS_congr v6 z2 ag, show vcl w2 24 = c from funext CC2.1]
            rfl
          · rw [y4, gS_congr v6 z2 ag, CC2.2]
        | false =>
          have v5 := z4 rfl
          rw [CC_f] at CC2
          have tmf : decide (30 ≤ (c 0).toInt) = false := tmf
          have t30 := of_decide_eq_false tmf
          obtain ⟨y1, y2, y3, y4⟩ := c2.2.1 v5 (by rw [CC2.1]; omega)
          obtain ⟨l25, l26, l27, l28, l30, w0', w7', a0', a30'⟩ := H2
          have e0 : (gI w' 29 0).toInt = (gI w2 29 0).toInt + 1 := by
            rw [y2]
            exact zi_add rfl o32 (by omega) (by rw [CC2.1]; omega)
          have hH3 : HL w' := by
            refine ⟨by rw [FM_a y1 (by decide)]; exact l25, by rw [FM_a y1 (by decide)]; exact l26, by rw [FM_a y1 (by decide)]; exact l27, by rw [FM_a y1 (by decide)]; exact l28, y3, by rw [FM_i y1 (by decide)]; exact w0', by rw [FM_i y1 (by decide)]; exact w7', by rw [e0]; omega, by rw [e0, CC2.1]; omega⟩
          refine fin hH3 ?_
          rw [CC_f]
          have r0 : stC false v c (e8 bs n i m) 0 = c 0 + 1 := by
            show rowR c (Int32.ofNat v) (e8 bs n i m) 0 = c 0 + 1
            unfold rowR
            rw [if_pos rfl]
          refine ⟨by rw [r0, y2, CC2.1], fun q hq => ?_⟩
          rw [r0, show (c 0 + 1).toInt = (gI w' 29 0).toInt from by rw [y2, CC2.1], e0, CC2.1] at hq
          rw [CC2.1] at a0'
          rw [y4 q, CC2.1]
          exact rowN_R (c := c) rfl (Int32.toInt_inj.mp (by rw [z6]; exact (ofN_i (by omega)).symm)) CC2.2 (fun t h1 h2 => ns32_of (cns2 t h1 h2)) q (by omega)
end GG
