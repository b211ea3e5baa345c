section
/-! ===== the class reads a tape: a sentence, as the relation has it ===== -/
section GG
variable {X : pm_X} {k : Nat} {w0 w w' : pm_W} {r : Option Value} {p p1 p2 p3 f0 p0 f q : Int32} {bs : Nat → Int32} {n i v j m : Nat} {b : Bool} {c : Nat → Int32} {g : Int}
/-- the class's cells: a village's, the greatest; or a row's acts and parts -/
def CC (b : Bool) (w : pm_W) (c : Nat → Int32) (g : Int) : Prop := if b = true then (∀ k, vcl w 24 k = c k) ∧ (gI w 23 9).toInt = g else gI w 29 0 = c 0 ∧ ∀ q, q < 9 * (c 0).toInt.toNat → (gA w 30).getD q 0 = c (1 + q)
theorem CC_t : CC true w c g ↔ (∀ k, vcl w 24 k = c k) ∧ (gI w 23 9).toInt = g := by unfold CC; rw [if_pos rfl]
theorem CC_f : CC false w c g ↔ gI w 29 0 = c 0 ∧ ∀ q, q < 9 * (c 0).toInt.toNat → (gA w 30).getD q 0 = c (1 + q) := by unfold CC; rw [if_neg Bool.false_ne_true]
theorem vcl_FM {fs : List (Nat × Nat)} {as : List Nat} {w1 : pm_W} (hS : SK w) (fm : FM fs as w w1) (h0 : (24, 0) ∉ fs) (h1 : (24, 1) ∉ fs) (h2 : (24, 2) ∉ fs) (a5 : 25 ∉ as) (a6 : 26 ∉ as) (a7 : 27 ∉ as) (a8 : 28 ∉ as) (k : Nat) : vcl w1 24 k = vcl w 24 k := by
  rw [vcl_24 hS, vcl_24 fm.2.2.2, FM_i fm h0, FM_i fm h1, FM_i fm h2, FM_a fm a5, FM_a fm a6, FM_a fm a7, FM_a fm a8]
theorem CC_FM {fs : List (Nat × Nat)} {as : List Nat} {w1 : pm_W} (hS : SK w) (h : CC b w c g) (fm : FM fs as w w1) (h0 : (24, 0) ∉ fs) (h1 : (24, 1) ∉ fs) (h2 : (24, 2) ∉ fs) (h9 : (23, 9) ∉ fs) (h29 : (29, 0) ∉ fs) (a5 : 25 ∉ as) (a6 : 26 ∉ as) (a7 : 27 ∉ as) (a8 : 28 ∉ as) (a0 : 30 ∉ as) : CC b w1 c g := by
  cases b with
  | true =>
    rw [CC_t] at h ⊢
    exact ⟨fun k => (vcl_FM hS fm h0 h1 h2 a5 a6 a7 a8 k).trans (h.1 k), by rw [FM_i fm h9]; exact h.2⟩
  | false =>
    rw [CC_f] at h ⊢
    rw [FM_i fm h29, FM_a fm a0]
    exact h
def flR : List (Nat × Nat) := [(23, 5), (23, 6), (23, 7), (23, 8), (23, 9), (23, 10), (23, 11), (24, 0), (24, 1), (24, 2), (29, 0)]
def alR : List Nat := [25, 26, 27, 28, 30, 31]
theorem vcl_1 : vcl w 24 1 = gI w 24 2 := by
  unfold vcl
  rw [if_neg (by decide), if_pos rfl]
theorem vcl_0 : vcl w 24 0 = gI w 24 0 := by
  unfold vcl
  rw [if_pos rfl]
theorem tm_eq (h : CC b w c g) (hb1 : b = true → 6 ≤ v) (hb2 : b = false → v ≤ 5) : tooM w v = tmC b c v := by
  unfold tooM tmC
  cases b with
  | true =>
    rw [CC_t] at h
    have h6 := hb1 rfl
    show _ = (if v = 12 then decide (7 ≤ (c 1).toInt) else false)
    by_cases e : v = 12
    · rw [if_pos (by omega), if_pos e, ← h.1 1, vcl_1]
    · rw [if_neg (by omega), if_neg (by omega), if_neg e]
  | false =>
    rw [CC_f] at h
    have h5 := hb2 rfl
    show _ = decide (30 ≤ (c 0).toInt)
    rw [if_neg (by omega), if_pos (by omega), h.1]
theorem lw_p : lwL 7 0 = 0 ∧ lwH 7 0 = 8 ∧ lwL 7 1 = 0 ∧ lwH 7 1 = 8 ∧ lwL 12 0 = 0 ∧ lwH 12 0 = 8 ∧ lwL 12 1 = 0 ∧ lwH 12 1 = 8 ∧ lwL 9 0 = 0 ∧ lwH 9 0 = 8 ∧ lwL 10 0 = 0 ∧ lwH 10 0 = 8 := by decide +kernel
theorem good_of {f0 p0 : Int32} {ns : Nat → Int32} (ho : OK bs n i v m) (hz : (fJ bs n i v f0 p0 m).1 = 0) (hns : ∀ t, t < m → t < 8 → (ns t).toInt = nv bs n i t) : goodN v ns := by
  obtain ⟨l1, l2, l3, l4, l5, l6, l7, l8, l9, l10, l11, l12⟩ := lw_p
  refine ⟨fun e => ?_, fun e => ?_⟩
  · have hm : 2 ≤ m := by
      have := ho.2.1 (by omega)
      rcases e with e | e
      · rw [this, e]; decide +kernel
      · rw [this, e]; decide +kernel
    have r0 := fJ_rg hz (l := 0) (by omega)
    have r1 := fJ_rg hz (l := 1) (by omega)
    rw [hns 0 (by omega) (by decide), hns 1 (by omega) (by decide)]
    rcases e with e | e
    · subst e
      rw [l1, l2] at r0
      rw [l3, l4] at r1
      omega
    · subst e
      rw [l5, l6] at r0
      rw [l7, l8] at r1
      omega
  · have hm : 1 ≤ m := by
      have := ho.2.1 (by omega)
      rcases e with e | e
      · rw [this, e]; decide +kernel
      · rw [this, e]; decide +kernel
    have r0 := fJ_rg hz (l := 0) (by omega)
    rw [hns 0 (by omega) (by decide)]
    rcases e with e | e
    · subst e
      rw [l9, l10] at r0
      omega
    · subst e
      rw [l11, l12] at r0
      omega
theorem rowN_R {a : Nat} {pv : Int32} {cN ns : Nat → Int32} (hc : (c 0).toInt.toNat = a) (hpv : pv = Int32.ofNat v) (hN : ∀ q, q < 9 * a → cN q = c (1 + q)) (hns : ∀ t, t < m → t < 8 → ns t = ns32 bs n i t) (q : Nat) (hq : q < 9 * (a + 1)) : rowN cN a pv m ns q = rowR c (Int32.ofNat v) (e8 bs n i m) (1 + q) := by
  unfold rowN rowR
  rw [hc, if_neg (by omega : ¬ 1 + q = 0)]
  by_cases e1 : q = 9 * a
  · rw [if_pos e1, if_pos (by omega)]
    exact hpv
  · rw [if_neg e1, if_neg (by omega : ¬ 1 + q = 1 + 9 * a)]
    by_cases e2 : 9 * a + 1 ≤ q ∧ q < 9 * a + 9
    · rw [if_pos e2, if_pos (show 2 + 9 * a ≤ 1 + q ∧ 1 + q < 10 + 9 * a by omega), show 1 + q - (2 + 9 * a) = q - (9 * a + 1) by omega]
      unfold e8
      by_cases e3 : q < 9 * a + 1 + m
      · rw [if_pos e3, if_pos (show q - (9 * a + 1) < m by omega)]
        exact hns _ (by omega) (by omega)
      · rw [if_neg e3, if_neg (show ¬ q - (9 * a + 1) < m by omega)]
    · rw [if_neg e2, if_neg (show ¬ (2 + 9 * a ≤ 1 + q ∧ 1 + q < 10 + 9 * a) by omega)]
      exact hN q (by omega)
/-- a sentence -/
theorem CS_one (hX : XO X) (hb : b = decide (p1 = 0)) (h : CS w bs n i f p) (hc : CC b w c g) (q : PS X k 29 0 [.ref 23, .int p1, pm_dead, pm_dead, pm_dead] [] w r w') : FM flR alR w w' ∧ ((vbT b bs n i = -1 ∧ r = some (.int 0) ∧ gI w' 23 7 = pl bs n i) ∨ (∃ v m : Nat, vbT b bs n i = v ∧ FI bs n i v m ∧ r = some (.int 0) ∧ gI w' 23 7 = pl bs n (tP bs n i (m + 1))) ∨ (∃ v m : Nat, vbT b bs n i = v ∧ OK bs n i v m ∧ r = some (.int 1) ∧ CS w' bs n (tP bs n i (m + 2)) (fD b bs n i f p c v m).1 (fD b bs n i f p c v m).2 ∧ CC b w' (cD b bs n i f p c v m) (gD b bs n i f p c g v m))) := by
  have hh := h
  obtain ⟨hS, hT, hcb, hcn, hf, hp, hH, h4, n6, hi⟩ := h
  rcases F29 hX hh hb q with ⟨z1, z2, z3⟩ | ⟨v, pv, z1, z2, z3, z4, z5, z6, m, z7⟩
  · rw [z3]
    exact ⟨FM_refl hS, Or.inl ⟨z1, z2, i32_of hT.2.1 (by have := (tkN_n (bs := bs) hi).1; omega)⟩⟩
  · rw [tm_eq hc z3 z4] at z7
    rcases z7 with ⟨a1, a2, fm, a4, a5, a6, a7⟩ | ⟨a1, a2, w1, w2, ⟨fm, a4, a5, a6, a7⟩, f2, t2, z8⟩
    · exact ⟨FM_mono fm (by decide) (by decide), Or.inr (Or.inl ⟨v, m, z1, a1, a2, i32_of a4.2.1 (by have := (tkN_n (bs := bs) (tP_le (bs := bs) hi (m + 1))).1; omega)⟩)⟩
    · have fm2 : FM flR alR w w2 := FM_trans (FM_mono fm (by decide) (by decide)) (FM_mono f2 (by decide) (by decide))
      have f10 : gI w2 23 10 = (fD b bs n i f p c v m).1 := (FM_i f2 (by decide)).trans a5
      have f11 : gI w2 23 11 = (fD b bs n i f p c v m).2 := (FM_i f2 (by decide)).trans a6
      have cb2 : cb w2 = bs := ((cb_FM f2 (by decide) (by intro z; cases z)).trans (cb_FM fm (by decide) (by rw [h4]; decide))).trans hcb
      have cn2 : cn w2 = n := ((cn_FM f2 (by decide)).trans (cn_FM fm (by decide))).trans hcn
      have g42 : gR w2 23 3 = 4 := ((FM_r f2 (by decide)).trans (FM_r fm (by decide))).trans h4
      have H2 : HL w2 := HL_FM (HL_FM hH fm (by decide) (by decide) (by decide) (by decide) (by decide) (by decide) (by decide)) f2 (by decide) (by decide) (by decide) (by decide) (by decide) (by decide) (by decide)
      have CC2 : CC b w2 c g := CC_FM fm.2.2.2 (CC_FM hS hc fm (by decide) (by decide) (by decide) (by decide) (by decide) (by decide) (by decide) (by decide) (by decide) (by decide)) f2 (by decide) (by decide) (by decide) (by decide) (by decide) (by decide) (by decide) (by decide) (by decide) (by decide)
      have hle := tP_le (bs := bs) hi (m + 2)
      have cns2 : ∀ t, t < m → t < 8 → (cns w2 t).toInt = nv bs n i t := fun t h1 h2 => by
        have e : cns w2 t = cns w1 t := by unfold cns; rw [FM_a f2 (by decide)]
        rw [e]
        exact a7 t h1 h2
      rcases z8 with ⟨c1, c2⟩ | ⟨c1, c2⟩
      · subst c2
        rw [f10] at c1
        refine ⟨fm2, Or.inr (Or.inr ⟨v, m, z1, a1, a2, ⟨f2.2.2.2, t2, cb2, cn2, f10, f11, H2, g42, n6, hle⟩, ?_⟩)⟩
        unfold cD gD
        rw [if_neg c1, if_neg c1]
        exact CC2
      · rw [f10] at c1
        have c3 : (fJ bs n i v (ntF (tmC b c v) 3 f) (ntP (tmC b c v) (pl bs n i) f p) m).1 = 0 := c1
        have tmf := (ntF_z (by decide +kernel) (fJ_00 m c3)).2
        have gd := good_of a1 c3 cns2
        have fm3 : FM flR alR w2 w' := FM_mono c2.1 (by decide) (by decide)
        refine ⟨FM_trans fm2 fm3, Or.inr (Or.inr ⟨v, m, z1, a1, a2, ?_⟩)⟩
        have T3 : CTk w' bs n (tP bs n i (m + 2)) := CT_FM t2 c2.1 (by decide) (by decide) (by decide) (by decide)
        have cb3 : cb w' = bs := (cb_FM c2.1 (by decide) (by rw [g42]; decide)).trans cb2
        have cn3 : cn w' = n := (cn_FM c2.1 (by decide)).trans cn2
        have g43 : gR w' 23 3 = 4 := (FM_r c2.1 (by decide)).trans g42
        have d10 : gI w' 23 10 = (fD b bs n i f p c v m).1 := (FM_i c2.1 (by decide)).trans f10
        have d11 : gI w' 23 11 = (fD b bs n i f p c v m).2 := (FM_i c2.1 (by decide)).trans f11
        have fin : HL w' → CC b w' (stC b v c (e8 bs n i m)) (gS v g (e8 bs n i m)) → CS w' bs n (tP bs n i (m + 2)) (fD b bs n i f p c v m).1 (fD b bs n i f p c v m).2 ∧ CC b w' (cD b bs n i f p c v m) (gD b bs n i f p c g v m) := by
          intro y1 y2
          refine ⟨⟨c2.1.2.2.2, T3, cb3, cn3, d10, d11, y1, g43, n6, hle⟩, ?_⟩
          unfold cD gD
          rw [if_pos c1, if_pos c1]
          exact y2
        cases b with
        | true =>
          have v6 := z3 rfl
          rw [CC_t] at CC2
          obtain ⟨y1, y2, y3, y4⟩ := c2.2.2 v6 (fun e => by
            have tmf : (if v = 12 then decide (7 ≤ (c 1).toInt) else false) = false := tmf
            rw [if_pos e] at tmf
            have := of_decide_eq_false tmf
            have e1 := CC2.1 1
            rw [vcl_1] at e1
            rw [e1]
            omega) gd
          have hm : m = dueN v := a1.2.1 (by omega)
          have d8 : dueN v ≤ 4 := (dueN_i z2).2
          have ag : ∀ t, t < dueN v → cns w2 t = e8 bs n i m t := fun t ht => by rw [e8_ns (by omega)]; exact ns32_of (cns2 t (by omega) (by omega))
          refine fin y2 ?_
          rw [CC_t]
          refine ⟨fun k => ?_, ?_⟩
          · rw [y3 k, kS_congr v6 z2 ag, show vcl w2 24 = c from funext CC2.1]
            rfl
          · rw [y4, gS_congr v6 z2 ag, CC2.2]
        | false =>
          have v5 := z4 rfl
          rw [CC_f] at CC2
          have tmf : decide (30 ≤ (c 0).toInt) = false := tmf
          have t30 := of_decide_eq_false tmf
          obtain ⟨y1, y2, y3, y4⟩ := c2.2.1 v5 (by rw [CC2.1]; omega)
          obtain ⟨l25, l26, l27, l28, l30, w0', w7', a0', a30'⟩ := H2
          have e0 : (gI w' 29 0).toInt = (gI w2 29 0).toInt + 1 := by
            rw [y2]
            exact zi_add rfl o32 (by omega) (by rw [CC2.1]; omega)
          have hH3 : HL w' := by
            refine ⟨by rw [FM_a y1 (by decide)]; exact l25, by rw [FM_a y1 (by decide)]; exact l26, by rw [FM_a y1 (by decide)]; exact l27, by rw [FM_a y1 (by decide)]; exact l28, y3, by rw [FM_i y1 (by decide)]; exact w0', by rw [FM_i y1 (by decide)]; exact w7', by rw [e0]; omega, by rw [e0, CC2.1]; omega⟩
          refine fin hH3 ?_
          rw [CC_f]
          have r0 : stC false v c (e8 bs n i m) 0 = c 0 + 1 := by
            show rowR c (Int32.ofNat v) (e8 bs n i m) 0 = c 0 + 1
            unfold rowR
            rw [if_pos rfl]
          refine ⟨by rw [r0, y2, CC2.1], fun q hq => ?_⟩
          rw [r0, show (c 0 + 1).toInt = (gI w' 29 0).toInt from by rw [y2, CC2.1], e0, CC2.1] at hq
          rw [CC2.1] at a0'
          rw [y4 q, CC2.1]
          exact rowN_R (c := c) rfl (Int32.toInt_inj.mp (by rw [z6]; exact (ofN_i (by omega)).symm)) CC2.2 (fun t h1 h2 => ns32_of (cns2 t h1 h2)) q (by omega)
end GG
end
section
/-! ===== the class reads a tape ===== -/
section GHR
variable {w w1 w2 w3 : pm_W} {a b n m i : Nat} {x y : Int32}
/-- a field whose reference changes -/
def sk_rf (a n : Nat) : Bool := match sk0[a]? with
  | some (.inr (ci, fs)) => RFb ci n && Nat.beq (sk_k (fs.getD n .null)) 3
  | _ => false
theorem SK_rf (hS : SK w) (h : sk_rf a n = true) : ∃ ci fs c, w[a]? = some (.inr (ci, fs)) ∧ RFb ci n = true ∧ fs[n]? = some (.ref c) := by
  unfold sk_rf at h
  cases hw : w[a]? with
  | none =>
    have e : sk0[a]? = none := by rw [← show w.map sk_e = sk0 from hS, List.getElem?_map, hw]; rfl
    rw [e] at h
    cases h
  | some q =>
    rw [SK_at hS hw] at h
    cases q with
    | inl q =>
      obtain ⟨t, q⟩ := q
      rcases q with q | q | q <;> cases h
    | inr q =>
      obtain ⟨ci, fs⟩ := q
      have h : (RFb ci n && Nat.beq (sk_k ((sk_f ci 0 fs).getD n .null)) 3) = true := h
      rw [Bool.and_eq_true] at h
      obtain ⟨h1, h2⟩ := h
      have h2 := Nat.eq_of_beq_eq_true h2
      rw [List.getD_eq_getElem?_getD, sk_fget] at h2
      cases hv : fs[n]? with
      | none =>
        rw [hv] at h2
        cases h2
      | some v =>
        rw [hv] at h2
        have h2 : sk_k (sk_v ci (0 + n) v) = 3 := h2
        rw [sk_vk] at h2
        cases v <;> first | exact ⟨ci, fs, _, rfl, h1, hv⟩ | cases h2
theorem sR_eq {ci c : Nat} {fs : List Value} (hw : w[a]? = some (.inr (ci, fs))) (hr : RFb ci n = true) (hf : fs[n]? = some (.ref c)) : sR w a n b = w.set a (.inr (ci, fs.set n (.ref b))) := by
  unfold sR
  rw [hw]
  show cond (RFb ci n) _ _ = _
  rw [hr]
  show (match fs[n]? with | some (.ref _) => w.set a (.inr (ci, fs.set n (.ref b))) | _ => w) = _
  rw [hf]
theorem gR_sR (hS : SK w) (h : sk_rf a n = true) : gR (sR w a n b) a n = b := by
  obtain ⟨ci, fs, c, hw, hr, hf⟩ := SK_rf hS h
  rw [sR_eq hw hr hf]
  unfold gR
  obtain ⟨hl, _⟩ := List.getElem?_eq_some_iff.mp hf
  rw [gV_of (wk_eq hw) (List.getElem?_set_self hl)]
  rfl
theorem FM_sR {fs : List (Nat × Nat)} {as : List Nat} (hS : SK w) (hr : sk_rf a n = true) (h : (a, n) ∈ fs) : FM fs as w (sR w a n b) := by
  obtain ⟨ci, gs, c, hw, hr, hf⟩ := SK_rf hS hr
  have hS' : SK (sR w a n b) := SK_sR hS
  rw [sR_eq hw hr hf] at hS' ⊢
  exact ⟨fun d m q => gV_set_ne hw (fun e => q (by rw [← e.1, ← e.2]; exact h)), fun d _ => gA_set_o hw, fun d => gQ_set_o hw, hS'⟩
end GHR
section GH
variable {X : pm_X} {k : Nat} {w0 w w' : pm_W} {r : Option Value} {p p1 p2 p3 f0 p0 f q : Int32} {bs : Nat → Int32} {n i v j m : Nat} {b : Bool} {c : Nat → Int32} {g : Int}
/-- the fault and its place, with the last one -/
def fF (b : Bool) (o : OC) : Int32 := if b = true ∧ o.2.1 = 0 ∧ (o.2.2.2.1 0).toInt ≤ o.2.2.2.2 then 4 else o.2.1
def pF (b : Bool) (n : Nat) (o : OC) : Int32 := if b = true ∧ o.2.1 = 0 ∧ (o.2.2.2.1 0).toInt ≤ o.2.2.2.2 then Int32.ofNat n else o.2.2.1
/-- an outcome without the last fault -/
theorem fF_n {o : OC} (h : ¬ (b = true ∧ o.2.1 = 0 ∧ (o.2.2.2.1 0).toInt ≤ o.2.2.2.2)) : fF b o = o.2.1 ∧ pF b n o = o.2.2.1 := ⟨if_neg h, if_neg h⟩
theorem fF_y {o : OC} (h : b = true ∧ o.2.1 = 0 ∧ (o.2.2.2.1 0).toInt ≤ o.2.2.2.2) : fF b o = 4 ∧ pF b n o = Int32.ofNat n := ⟨if_pos h, if_pos h⟩
theorem F18_end {x : Int32} (hx : x.toInt = n) (h10 : gI w 23 10 = f) (h11 : gI w 23 11 = p) (hS : SK w) (hc : CC true w c g) (q : if (gI w 23 9) < (gI w 24 0) then (r = none ∧ w' = w) else (∃ (r1 : Option Value) (w2 : pm_W), PS X k 46 0 [.ref 23, .int 4, .int x] [] w r1 w2 ∧ (r1 = none → SK w2 → (r = none ∧ w' = w2)))) : r = none ∧ FM flR alR w w' ∧ gI w' 23 10 = fF true (false, f, p, c, g) ∧ gI w' 23 11 = pF true n (false, f, p, c, g) ∧ (fF true (false, f, p, c, g) = 0 → CC true w' c g) := by
  have hc' := hc
  rw [CC_t] at hc'
  have e0 := hc'.1 0
  rw [vcl_0] at e0
  by_cases z : gI w 23 9 < gI w 24 0
  · rw [if_pos z] at q
    obtain ⟨q1, q2⟩ := q
    subst w'
    rw [Int32.lt_iff_toInt_lt, hc'.2, e0] at z
    have nn : ¬ (true = true ∧ f = 0 ∧ (c 0).toInt ≤ g) := fun y => by have := y.2.2; omega
    obtain ⟨y1, y2⟩ := fF_n (b := true) (n := n) (o := (false, f, p, c, g)) nn
    rw [y1, y2]
    exact ⟨q1, FM_refl hS, h10, h11, fun _ => hc⟩
  · rw [if_neg z] at q
    rw [Int32.lt_iff_toInt_lt, hc'.2, e0] at z
    obtain ⟨r1, w2, q1, q2⟩ := q
    obtain ⟨u1, u2, u3, u4⟩ := F46 hS q1
    obtain ⟨q3, q4⟩ := q2 u1 u2.2.2.2
    subst w'
    rw [h10] at u3 u4
    rw [h11] at u4
    by_cases ef : f = 0
    · have yy : true = true ∧ f = 0 ∧ (c 0).toInt ≤ g := ⟨rfl, ef, by omega⟩
      obtain ⟨y1, y2⟩ := fF_y (b := true) (n := n) (o := (false, f, p, c, g)) yy
      rw [y1, y2, u3, u4, if_pos ef, if_pos ef]
      exact ⟨q3, FM_mono u2 (by decide) (by decide), rfl, Int32.toInt_inj.mp (by rw [hx]; exact (ofN_i (by have := zi_hi x; omega)).symm), fun y => absurd y (by decide +kernel)⟩
    · have nn : ¬ (true = true ∧ f = 0 ∧ (c 0).toInt ≤ g) := fun y => ef y.2.1
      obtain ⟨y1, y2⟩ := fF_n (b := true) (n := n) (o := (false, f, p, c, g)) nn
      rw [y1, y2, u3, u4, if_neg ef, if_neg ef]
      exact ⟨q3, FM_mono u2 (by decide) (by decide), rfl, rfl, fun y => absurd y ef⟩
theorem tP_grow2 (hk : tkK bs n i = 1) (ho : OK bs n i v m) : i + (m + 2) ≤ tP bs n i (m + 2) := by
  refine tP_grow (m + 2) (fun t ht => ?_)
  by_cases e0 : t = 0
  · subst e0
    show tkK bs n i ≠ 0
    rw [hk]; decide
  · obtain ⟨t', rfl⟩ : ∃ t', t = t' + 1 := ⟨t - 1, by omega⟩
    by_cases e1 : t' = m
    · rw [e1, ho.2.2.2]; decide
    · rw [ho.1 t' (by omega)]; decide
theorem F18_56 (hX : XO X) {o1 : Nat} {i2 i3 : Int32} (hb : b = decide (i3 = 0)) : ∀ (k : Nat) (w : pm_W) (i : Nat) (f p : Int32) (c : Nat → Int32) (g : Int) (t : Nat) (i4 : Int32), CS w bs n i f p → CC b w c g → (gI w 23 4).toInt = n → i4.toInt = t → t ≤ i → PS X k 18 56 [.ref 23, .ref o1, .int i2, .int i3, .int i4] [] w r w' → r = none ∧ FM flR alR w w' ∧ ∃ (N : Nat) (o : OC), RDq b bs n N i f p c g o ∧ gI w' 23 10 = fF b o ∧ gI w' 23 11 = pF b n o ∧ (fF b o = 0 → CC b w' o.2.2.2.1 o.2.2.2.2) := by
  intro k
  induction k with
  | zero => intro w i f p c g t i4 h hc hn4 h4 ht q; exact (PS_0 q).elim
  | succ k ih =>
    intro w i f p c g t i4 h hc hn4 h4 ht q
    have hS : SK w := h.1
    have q := U18_56 hS q
    have hi := h.2.2.2.2.2.2.2.2.2
    have n6 := h.2.2.2.2.2.2.2.2.1
    rw [if_neg (by rw [Int32.lt_iff_toInt_lt]; omega)] at q
    have hT := h.2.1
    by_cases ck : gI w 23 6 = 0
    · rw [if_pos ck] at q
      rw [hT.1, show (0 : Int32) = Int32.ofNat 0 from rfl, tkK_inj tkK_4 (by decide)] at ck
      by_cases e3 : i3 = 0
      · rw [if_pos e3] at q
        have hbt : b = true := by rw [hb, decide_eq_true e3]
        subst hbt
        obtain ⟨y1, y2, y3, y4, y5⟩ := F18_end hn4 h.2.2.2.2.1 h.2.2.2.2.2.1 hS hc q
        exact ⟨y1, y2, 1, _, Or.inl ⟨ck, rfl⟩, y3, y4, y5⟩
      · rw [if_neg e3] at q
        have hbf : b = false := by rw [hb, decide_eq_false e3]
        subst hbf
        obtain ⟨y1, y2⟩ := q
        subst w'
        have nn : ¬ (false = true ∧ f = 0 ∧ (c 0).toInt ≤ g) := fun y => Bool.noConfusion y.1
        obtain ⟨z1, z2⟩ := fF_n (b := false) (n := n) (o := (false, f, p, c, g)) nn
        refine ⟨y1, FM_refl hS, 1, (false, f, p, c, g), Or.inl ⟨ck, rfl⟩, ?_, ?_, fun _ => hc⟩
        · rw [z1]; exact h.2.2.2.2.1
        · rw [z2]; exact h.2.2.2.2.2.1
    · rw [if_neg ck] at q
      rw [hT.1, show (0 : Int32) = Int32.ofNat 0 from rfl, tkK_inj tkK_4 (by decide)] at ck
      obtain ⟨r5, w6, q1, q2⟩ := q
      obtain ⟨f6, z⟩ := CS_one hX hb h hc q1
      have hS6 := f6.2.2.2
      have brk : ∀ (I : Nat), r5 = some (.int 0) → gI w6 23 7 = pl bs n I → r = none ∧ FM flR alR w w' ∧ gI w' 23 10 = 1 ∧ gI w' 23 11 = pl bs n I := by
        intro I e1 e2
        have q := q2 0 e1 hS6
        rw [if_pos rfl] at q
        have q := q _ rfl _ rfl
        obtain ⟨y1, y2⟩ := q
        have fa : FM flR alR w6 (sI w6 23 10 1) := FM_sI hS6 (by decide)
        have fb : FM flR alR (sI w6 23 10 1) (sI (sI w6 23 10 1) 23 11 (gI (sI w6 23 10 1) 23 7)) := FM_sI fa.2.2.2 (by decide)
        rw [y2]
        refine ⟨y1, FM_trans f6 (FM_trans fa fb), ?_, ?_⟩
        · rw [gI_sI_ne (by decide), gI_sI (SK_isF hS6 (by decide +kernel))]
        · rw [gI_sI (SK_isF fa.2.2.2 (by decide +kernel)), gI_sI_ne (by decide)]
          exact e2
      have nn : ∀ P : Int32, ¬ (b = true ∧ (1 : Int32) = 0 ∧ (c 0).toInt ≤ g) := fun _ y => absurd y.2.1 (by decide +kernel)
      rcases z with ⟨a1, a2, a3⟩ | ⟨v, m, a1, a2, a3, a4⟩ | ⟨v, m, a1, a2, a3, a4, a5⟩
      · obtain ⟨y1, y2, y3, y4⟩ := brk i a2 a3
        obtain ⟨z1, z2⟩ := fF_n (b := b) (n := n) (o := (true, 1, pl bs n i, c, g)) (nn 0)
        refine ⟨y1, y2, 1, (true, 1, pl bs n i, c, g), Or.inr (Or.inl ⟨ck, a1, rfl⟩), by rw [z1]; exact y3, by rw [z2]; exact y4, fun y => ?_⟩
        rw [z1] at y
        exact absurd (show (1 : Int32) = 0 from y) (by decide +kernel)
      · obtain ⟨y1, y2, y3, y4⟩ := brk (tP bs n i (m + 1)) a3 a4
        obtain ⟨z1, z2⟩ := fF_n (b := b) (n := n) (o := (true, 1, pl bs n (tP bs n i (m + 1)), c, g)) (nn 0)
        refine ⟨y1, y2, 1, (true, 1, pl bs n (tP bs n i (m + 1)), c, g), Or.inr (Or.inr (Or.inl ⟨v, m, a1, a2, rfl⟩)), by rw [z1]; exact y3, by rw [z2]; exact y4, fun y => ?_⟩
        rw [z1] at y
        exact absurd (show (1 : Int32) = 0 from y) (by decide +kernel)
      · have q := q2 1 a3 hS6
        rw [if_neg (by decide +kernel)] at q
        have gr := tP_grow2 (vbT_k a1) a2
        have hn6 : (gI w6 23 4).toInt = n := by rw [FM_i f6 (by decide)]; exact hn4
        obtain ⟨y1, y2, N, o, y3, y4⟩ := ih w6 _ _ _ _ _ (t + 1) (i4 + 1) a4 a5 hn6 (by rw [zi_inc (n := 2147483647) (by omega) (by omega), h4]; rfl) (by omega) q
        exact ⟨y1, FM_trans f6 y2, N + 1, o, Or.inr (Or.inr (Or.inr ⟨v, m, a1, a2, y3⟩)), y4⟩
end GH
end
section
/-! ===== the class reads a tape: from its start ===== -/
section GI
variable {X : pm_X} {k : Nat} {w0 w w' : pm_W} {r : Option Value} {p p1 p2 p3 f0 p0 f q : Int32} {bs : Nat → Int32} {n i v j m : Nat} {b : Bool} {c : Nat → Int32} {g : Int}
/-- the cells at first -/
def i0 (b : Bool) : Nat → Int32 := cond b (fun k => if k = 0 then 4 else 0) (fun _ => 0)
/-- an array of the skeleton, filled -/
theorem F20_n {a N : Nat} (hS : SK w) (ha : sk_a a = true) (hN : (gA w a).length = N) (h1 : N ≤ 1000) (h : PS X k 20 0 [.ref a, .int p, pm_dead, pm_dead] [] w r w') : r = none ∧ FM [] [a] w w' ∧ ∀ q, q < N → (gA w' a).getD q 0 = p := by
  obtain ⟨z1, z2, z3, z4⟩ := F20 hS (SK_isA hS ha) (by omega) h
  exact ⟨z1, z2, fun q hq => z4 q (by omega)⟩
theorem F19 (hS : SK w) (h : PS X k 19 0 [.ref 24] [] w r w') : r = none ∧ FM [(24, 0), (24, 1), (24, 2)] [25, 26, 27, 28] w w' ∧ ∀ k, vcl w' 24 k = i0 true k := by
  cases k with
  | zero => exact (PS_0 h).elim
  | succ k =>
    have h := U19_0 hS h _ rfl _ rfl _ rfl
    obtain ⟨w3, e3⟩ : ∃ w3, w3 = sI (sI (sI w 24 0 4) 24 1 0) 24 2 0 := ⟨_, rfl⟩
    rw [← e3] at h
    have fa : FM [(24, 0), (24, 1), (24, 2)] [25, 26, 27, 28] w (sI w 24 0 4) := FM_sI hS (by decide)
    have fb : FM [(24, 0), (24, 1), (24, 2)] [25, 26, 27, 28] (sI w 24 0 4) (sI (sI w 24 0 4) 24 1 0) := FM_sI fa.2.2.2 (by decide)
    have fc : FM [(24, 0), (24, 1), (24, 2)] [25, 26, 27, 28] (sI (sI w 24 0 4) 24 1 0) w3 := by rw [e3]; exact FM_sI fb.2.2.2 (by decide)
    have f3 := FM_trans fa (FM_trans fb fc)
    have g0 : gI w3 24 0 = 4 := by
      rw [e3, gI_sI_ne (by decide), gI_sI_ne (by decide), gI_sI (SK_isF hS (by decide +kernel))]
    have g1 : gI w3 24 1 = 0 := by
      rw [e3, gI_sI_ne (by decide), gI_sI (SK_isF fa.2.2.2 (by decide +kernel))]
    have g2 : gI w3 24 2 = 0 := by
      rw [e3, gI_sI (SK_isF fb.2.2.2 (by decide +kernel))]
    have S3 := f3.2.2.2
    obtain ⟨r4, w5, q1, h⟩ := h
    rw [(SK_R24 S3).1] at q1
    obtain ⟨a1, a2, a3⟩ := F20_n (N := 81) S3 (by decide +kernel) (SK_len S3 (by decide +kernel) (by decide)) (by decide) q1
    have S5 := a2.2.2.2
    obtain ⟨r6, w7, q2, h⟩ := h a1 S5
    rw [(SK_R24 S5).2.1] at q2
    obtain ⟨b1, b2, b3⟩ := F20_n (N := 9) S5 (by decide +kernel) (SK_len S5 (by decide +kernel) (by decide)) (by decide) q2
    have S7 := b2.2.2.2
    obtain ⟨r8, w9, q3, h⟩ := h b1 S7
    rw [(SK_R24 S7).2.2.1] at q3
    obtain ⟨c1, c2, c3⟩ := F20_n (N := 9) S7 (by decide +kernel) (SK_len S7 (by decide +kernel) (by decide)) (by decide) q3
    have S9 := c2.2.2.2
    obtain ⟨r10, w11, q4, h⟩ := h c1 S9
    rw [(SK_R24 S9).2.2.2] at q4
    obtain ⟨d1, d2, d3⟩ := F20_n (N := 28) S9 (by decide +kernel) (SK_len S9 (by decide +kernel) (by decide)) (by decide) q4
    obtain ⟨h1, h2⟩ := h d1 d2.2.2.2
    subst w'
    refine ⟨h1, FM_trans f3 (FM_trans (FM_mono a2 (by decide) (by decide)) (FM_trans (FM_mono b2 (by decide) (by decide)) (FM_trans (FM_mono c2 (by decide) (by decide)) (FM_mono d2 (by decide) (by decide))))), fun k => ?_⟩
    have e0 : gI w11 24 0 = 4 := by rw [FM_i d2 (by decide), FM_i c2 (by decide), FM_i b2 (by decide), FM_i a2 (by decide), g0]
    have e1 : gI w11 24 1 = 0 := by rw [FM_i d2 (by decide), FM_i c2 (by decide), FM_i b2 (by decide), FM_i a2 (by decide), g1]
    have e2 : gI w11 24 2 = 0 := by rw [FM_i d2 (by decide), FM_i c2 (by decide), FM_i b2 (by decide), FM_i a2 (by decide), g2]
    have k5 : ∀ q, q < 81 → (gA w11 25).getD q 0 = 0 := fun q hq => by rw [FM_a d2 (by decide), FM_a c2 (by decide), FM_a b2 (by decide)]; exact a3 q hq
    have k6 : ∀ q, q < 9 → (gA w11 26).getD q 0 = 0 := fun q hq => by rw [FM_a d2 (by decide), FM_a c2 (by decide)]; exact b3 q hq
    have k7 : ∀ q, q < 9 → (gA w11 27).getD q 0 = 0 := fun q hq => by rw [FM_a d2 (by decide)]; exact c3 q hq
    rw [vcl_pc S3 d2.2.2.2 (c0 := 4) (c1 := 0) (c2 := 0) (dw := fun _ => 0) (df := fun _ => 0) (dr := fun _ => 0) (da := fun _ => 0) e0 e2 e1 k5 k6 k7 d3 k]
    show _ = (if k = 0 then (4 : Int32) else 0)
    by_cases c0 : k = 0
    · rw [if_pos c0, if_pos c0]
    · rw [if_neg c0, if_neg c0]
      split
      · rfl
      · split
        · rfl
        · split
          · rfl
          · split
            · rfl
            · split
              · rfl
              · split <;> rfl
/-- the tape -/
def tb (w : pm_W) (i : Nat) : Int32 := (gA w 4).getD i 0
theorem F18 (hX : XO X) (hS : SK w) (hb : b = decide (p3 = 0)) (hn : p2.toInt = n) (h600 : n ≤ 600) (h : PS X k 18 0 [.ref 23, .ref 4, .int p2, .int p3, pm_dead] [] w r w') : r = none ∧ FM ((23, 3) :: (23, 4) :: flR) alR w w' ∧ ∃ (N : Nat) (o : OC), RDq b (tb w) n N 0 0 (-1) (i0 b) (-1) o ∧ gI w' 23 10 = fF b o ∧ gI w' 23 11 = pF b n o ∧ (fF b o = 0 → CC b w' o.2.2.2.1 o.2.2.2.2) := by
  cases k with
  | zero => exact (PS_0 h).elim
  | succ k =>
    obtain ⟨r1, w2, q1, h⟩ := U18_0 hS h
    obtain ⟨a1, a2, a3⟩ := F19 hS q1
    have S2 := a2.2.2.2
    obtain ⟨r3, w4, q2, h⟩ := h a1 S2
    have F21 : r3 = none ∧ w4 = sI w2 29 0 0 := by
      cases k with
      | zero => exact (PS_0 q2).elim
      | succ k => exact U21_0 S2 q2 _ rfl
    obtain ⟨b1, b2⟩ := F21
    have f4 : FM ((23, 3) :: (23, 4) :: flR) alR w2 w4 := by rw [b2]; exact FM_sI S2 (by decide)
    have S4 := f4.2.2.2
    have g29 : gI w4 29 0 = 0 := by rw [b2, gI_sI (SK_isF S2 (by decide +kernel))]
    have v4 : ∀ k, vcl w4 24 k = i0 true k := fun k => by
      have f4' : FM [(29, 0)] [] w2 w4 := by rw [b2]; exact FM_sI S2 (by decide)
      rw [vcl_FM S2 f4' (by decide) (by decide) (by decide) (by decide) (by decide) (by decide) (by decide) k]
      exact a3 k
    have h := h b1 S4 _ rfl _ rfl _ rfl _ rfl _ rfl _ rfl
    obtain ⟨w5, e5⟩ : ∃ w5, w5 = sR w4 23 3 4 := ⟨_, rfl⟩
    rw [← e5] at h
    have f5 : FM ((23, 3) :: (23, 4) :: flR) alR w4 w5 := by rw [e5]; exact FM_sR S4 (by decide +kernel) (by decide)
    have f5' : FM [(23, 3)] [] w4 w5 := by rw [e5]; exact FM_sR S4 (by decide +kernel) (by decide)
    have g5 : gR w5 23 3 = 4 := by rw [e5]; exact gR_sR S4 (by decide +kernel)
    have S5 := f5.2.2.2
    have l4 : (gA w5 4).length = 600 := SK_len S5 (by decide +kernel) (by decide)
    have en : (if (Int32.ofNat (gN w5 4)) < p2 then (Int32.ofNat (gN w5 4)) else p2) = p2 := by
      rw [gN_A (SK_isA S5 (by decide +kernel)), l4]
      refine if_neg ?_
      rw [Int32.lt_iff_toInt_lt, show (Int32.ofNat 600).toInt = 600 from by decide +kernel]
      omega
    rw [en] at h
    obtain ⟨w10, e10⟩ : ∃ w10, w10 = sI (sI (sI (sI (sI w5 23 4 p2) 23 5 0) 23 9 (-1)) 23 10 0) 23 11 (-1) := ⟨_, rfl⟩
    rw [← e10] at h
    have s6 : FM [(23, 4), (23, 5), (23, 9), (23, 10), (23, 11)] [] w5 (sI w5 23 4 p2) := FM_sI S5 (by decide)
    have s7 : FM [(23, 4), (23, 5), (23, 9), (23, 10), (23, 11)] [] (sI w5 23 4 p2) (sI (sI w5 23 4 p2) 23 5 0) := FM_sI s6.2.2.2 (by decide)
    have s8 : FM [(23, 4), (23, 5), (23, 9), (23, 10), (23, 11)] [] (sI (sI w5 23 4 p2) 23 5 0) (sI (sI (sI w5 23 4 p2) 23 5 0) 23 9 (-1)) := FM_sI s7.2.2.2 (by decide)
    have s9 : FM [(23, 4), (23, 5), (23, 9), (23, 10), (23, 11)] [] (sI (sI (sI w5 23 4 p2) 23 5 0) 23 9 (-1)) (sI (sI (sI (sI w5 23 4 p2) 23 5 0) 23 9 (-1)) 23 10 0) := FM_sI s8.2.2.2 (by decide)
    have s10 : FM [(23, 4), (23, 5), (23, 9), (23, 10), (23, 11)] [] (sI (sI (sI (sI w5 23 4 p2) 23 5 0) 23 9 (-1)) 23 10 0) w10 := by rw [e10]; exact FM_sI s9.2.2.2 (by decide)
    have f10 := FM_trans s6 (FM_trans s7 (FM_trans s8 (FM_trans s9 s10)))
    have t4 : gI w10 23 4 = p2 := by
      rw [e10, gI_sI_ne (by decide), gI_sI_ne (by decide), gI_sI_ne (by decide), gI_sI_ne (by decide), gI_sI (SK_isF S5 (by decide +kernel))]
    have t5 : gI w10 23 5 = 0 := by
      rw [e10, gI_sI_ne (by decide), gI_sI_ne (by decide), gI_sI_ne (by decide), gI_sI (SK_isF s6.2.2.2 (by decide +kernel))]
    have t9 : gI w10 23 9 = -1 := by
      rw [e10, gI_sI_ne (by decide), gI_sI_ne (by decide), gI_sI (SK_isF s7.2.2.2 (by decide +kernel))]
    have t10 : gI w10 23 10 = 0 := by
      rw [e10, gI_sI_ne (by decide), gI_sI (SK_isF s8.2.2.2 (by decide +kernel))]
    have t11 : gI w10 23 11 = -1 := by
      rw [e10, gI_sI (SK_isF s9.2.2.2 (by decide +kernel))]
    have S10 := f10.2.2.2
    obtain ⟨r11, w12, q3, h⟩ := h
    obtain ⟨c1, c2, c3⟩ := F23 S10 (by rw [t5]; decide) q3
    have S12 := c2.2.2.2
    have h := h c1 S12
    have fAll : FM ((23, 3) :: (23, 4) :: flR) alR w w12 := FM_trans (FM_mono a2 (by decide) (by decide)) (FM_trans f4 (FM_trans f5 (FM_trans (FM_mono f10 (by decide) (by decide)) (FM_mono c2 (by decide) (by decide)))))
    have g10 : gR w10 23 3 = 4 := (FM_r f10 (by decide)).trans g5
    have cbe : cb w10 = tb w := by
      funext i
      unfold cb tb
      rw [g10, FM_a f10 (by intro z; cases z), FM_a f5 (by decide), FM_a f4 (by decide), FM_a a2 (by decide)]
    have cne : cn w10 = n := by
      unfold cn
      rw [t4]
      omega
    have cate : cat w10 = 0 := by
      unfold cat
      rw [t5]
      rfl
    unfold TKc at c3
    rw [cbe, cne, cate] at c3
    have hCS : CS w12 (tb w) n 0 0 (-1) := by
      refine ⟨S12, c3, ?_, ?_, ?_, ?_, ?_, ?_, h600, Nat.zero_le _⟩
      · exact (cb_FM c2 (by decide) (by intro z; cases z)).trans cbe
      · exact (cn_FM c2 (by decide)).trans cne
      · rw [FM_i c2 (by decide)]; exact t10
      · rw [FM_i c2 (by decide)]; exact t11
      · have e2 : gI w12 24 2 = 0 := by
          rw [FM_i c2 (by decide), FM_i f10 (by decide), FM_i f5' (by decide), ← vcl_1, v4 1]
          rfl
        have e0 : gI w12 29 0 = 0 := by
          rw [FM_i c2 (by decide), FM_i f10 (by decide), FM_i f5' (by decide)]
          exact g29
        refine ⟨SK_len S12 (by decide +kernel) (by decide), SK_len S12 (by decide +kernel) (by decide), SK_len S12 (by decide +kernel) (by decide), SK_len S12 (by decide +kernel) (by decide), SK_len S12 (by decide +kernel) (by decide), ?_, ?_, ?_, ?_⟩
        · rw [e2]; decide
        · rw [e2]; decide
        · rw [e0]; decide
        · rw [e0]; decide
      · exact (FM_r c2 (by decide)).trans g10
    have hCC : CC b w12 (i0 b) (-1) := by
      cases b with
      | true =>
        rw [CC_t]
        refine ⟨fun k => ?_, ?_⟩
        · rw [vcl_FM S10 c2 (by decide) (by decide) (by decide) (by decide) (by decide) (by decide) (by decide) k, vcl_FM S5 f10 (by decide) (by decide) (by decide) (by decide) (by decide) (by decide) (by decide) k, vcl_FM S4 f5' (by decide) (by decide) (by decide) (by decide) (by decide) (by decide) (by decide) k]
          exact v4 k
        · rw [FM_i c2 (by decide), t9]
          decide +kernel
      | false =>
        rw [CC_f]
        refine ⟨?_, fun q hq => ?_⟩
        · rw [FM_i c2 (by decide), FM_i f10 (by decide), FM_i f5' (by decide)]
          exact g29
        · exact absurd hq (by show ¬ q < 0; omega)
    obtain ⟨z1, z2, N, o, z3⟩ := F18_56 hX hb _ w12 0 0 (-1) (i0 b) (-1) 0 0 hCS hCC (by rw [FM_i c2 (by decide), t4]; exact hn) z32 (Nat.le_refl _) h
    exact ⟨z1, FM_trans fAll (FM_mono z2 (by decide) (by decide)), N, o, z3⟩
end GI
end
section
/-! ===== the reference reads a tape ===== -/
section GJ
variable {X : pm_X} {k : Nat} {w0 w w' : pm_W} {r : Option Value} {p p1 p2 p3 f0 p0 f q : Int32} {bs : Nat → Int32} {n i v j m : Nat} {b : Bool} {c : Nat → Int32} {g : Int}
def CR (b : Bool) (w : pm_W) (c : Nat → Int32) (g : Int) : Prop := (∀ q, rcl w q = c q) ∧ (b = true → (gI w 147 9).toInt = g)
/-- the count is in its range -/
def NC (b : Bool) (c : Nat → Int32) : Prop := if b = true then 0 ≤ (c 1).toInt ∧ (c 1).toInt ≤ 7 else 0 ≤ (c 0).toInt ∧ (c 0).toInt ≤ 30
theorem kS_1 {c ns : Nat → Int32} (h6 : 6 ≤ v) (h11 : v ≤ 11) : kS v c ns 1 = c 1 := by
  have cv : v = 6 ∨ v = 7 ∨ v = 8 ∨ v = 9 ∨ v = 10 ∨ v = 11 := by omega
  rcases cv with rfl | rfl | rfl | rfl | rfl | rfl
  · show (if 1 = 0 then ns 0 else c 1) = _
    rw [if_neg (by omega)]
  · show (if 1 = _ then _ else c 1) = _
    rw [if_neg (by omega)]
  · show (if 3 ≤ 1 ∧ 1 < 84 then (if (1 - 3) % 10 = 0 then 0 else ns 0) else c 1) = _
    rw [if_neg (by omega)]
  · show (if 1 = _ then _ else c 1) = _
    rw [if_neg (by omega)]
  · show (if 1 = _ then _ else c 1) = _
    rw [if_neg (by omega)]
  · show (if 1 = 2 then ns 0 else c 1) = _
    rw [if_neg (by omega)]
theorem NC_step {e : Nat → Int32} (hN : NC b c) (hv : vbT b bs n i = v) (ht : tmC b c v = false) : NC b (stC b v c e) := by
  cases b with
  | true =>
    unfold NC at hN ⊢
    rw [if_pos rfl] at hN ⊢
    obtain ⟨h6, h12⟩ := vbT_t hv
    show 0 ≤ (kS v c e 1).toInt ∧ (kS v c e 1).toInt ≤ 7
    by_cases e12 : v = 12
    · subst e12
      have ht : (if (12 : Nat) = 12 then decide (7 ≤ (c 1).toInt) else false) = false := ht
      rw [if_pos rfl] at ht
      have ht := of_decide_eq_false ht
      have e : kS 12 c e 1 = c 1 + 1 := by
        show (if (1 : Nat) = 1 then c 1 + 1 else if 102 + 4 * (c 1).toInt.toNat ≤ 1 ∧ 1 < 106 + 4 * (c 1).toInt.toNat then e (1 - (102 + 4 * (c 1).toInt.toNat)) else c 1) = _
        rw [if_pos rfl]
      rw [e, zi_add rfl o32 (by omega) (by omega)]
      omega
    · rw [kS_1 h6 (by omega)]
      exact hN
  | false =>
    unfold NC at hN ⊢
    rw [if_neg Bool.false_ne_true] at hN ⊢
    have ht : decide (30 ≤ (c 0).toInt) = false := ht
    have ht := of_decide_eq_false ht
    have e : stC false v c e 0 = c 0 + 1 := by
      show rowR c (Int32.ofNat v) e 0 = c 0 + 1
      unfold rowR
      rw [if_pos rfl]
    rw [e, zi_add rfl o32 (by omega) (by omega)]
    omega
theorem tm_any {t t' : Bool} {x : Int32} (h : f = 0 → t = t') : ntF t 3 f = ntF t' 3 f ∧ ntP t x f p = ntP t' x f p := by
  by_cases c : f = 0
  · rw [h c]
    exact ⟨rfl, rfl⟩
  · exact ⟨ntF_any c, ntP_any c⟩
theorem fD_0 (h : (fD b bs n i f p c v m).1 = 0) : f = 0 ∧ tmC b c v = false := ntF_z (by decide +kernel) (fJ_00 m h)
/-- a line, as the relation has it: the form broken, or a sentence -/
theorem RS_one (hN : f = 0 → NC b c) (h : RS w bs n i f p) (hc : f = 0 → CR b w c g) {k : Nat} {r : Option Value} {w1 : pm_W} (q : if b = true then PS X k 207 0 [.ref 147, pm_dead, pm_dead, pm_dead, pm_dead] [] w r w1 else PS X k 215 0 [.ref 147, pm_dead, pm_dead, pm_dead] [] w r w1) : r = none ∧ FM rl7 [148, 150, 151] w w1 ∧ AF w w1 ∧ ((vbT b bs n i = -1 ∧ BK w1 bs n i) ∨ (∃ v m : Nat, vbT b bs n i = v ∧ FI bs n i v m ∧ BK w1 bs n (tP bs n i (m + 1))) ∨ (∃ v m : Nat, vbT b bs n i = v ∧ OK bs n i v m ∧ RS w1 bs n (tP bs n i (m + 2)) (fD b bs n i f p c v m).1 (fD b bs n i f p c v m).2 ∧ ((fD b bs n i f p c v m).1 = 0 → NC b (cD b bs n i f p c v m) ∧ CR b w1 (cD b bs n i f p c v m) (gD b bs n i f p c g v m)))) := by
  cases b with
  | true =>
    rw [if_pos rfl] at q
    obtain ⟨z1, z2⟩ := F207 (len150 h.1) (fun hz => by rw [(hc hz).1 1]; have := hN hz; unfold NC at this; rw [if_pos rfl] at this; exact this.1) h q
    rcases z2 with ⟨a1, a2, a3, a4⟩ | ⟨v, a1, a2, a3, a4, a5, a6, m, a7⟩
    · exact ⟨z1, a2, a3, Or.inl ⟨a1, a4⟩⟩
    · have ht : f = 0 → tmV w v = tmC true c v := fun hz => by
        unfold tmV tmC tm12
        rw [(hc hz).1 1]
        show _ = (if v = 12 then decide (7 ≤ (c 1).toInt) else false)
        by_cases e : v = 12
        · subst e
          rw [if_pos rfl]
          rfl
        · rw [if_neg e]
          cases eb : Nat.beq v 12 with
          | true => exact absurd (Nat.eq_of_beq_eq_true eb) e
          | false => rfl
      obtain ⟨e1, e2⟩ := tm_any (p := p) (x := pl bs n i) ht
      rw [e1, e2] at a7
      refine ⟨z1, a5, a6, ?_⟩
      rcases a7 with ⟨b1, b2⟩ | ⟨b1, b2, b3⟩
      · exact Or.inr (Or.inl ⟨v, m, a1, b1, b2⟩)
      · refine Or.inr (Or.inr ⟨v, m, a1, b1, b2, fun hz => ?_⟩)
        obtain ⟨c1, c2, c3⟩ := b3 hz
        obtain ⟨d1, d2⟩ := fD_0 hz
        have hm : m = dueN v := b1.2.1 (by omega)
        have ag : ∀ t, t < dueN v → ns32 bs n i t = e8 bs n i m t := fun t ht => (e8_ns (by omega)).symm
        unfold cD gD
        rw [if_pos hz, if_pos hz]
        refine ⟨NC_step (hN d1) a1 d2, fun q => ?_, fun _ => ?_⟩
        · rw [c2 q, kS_congr a2 a3 ag, show rcl w = c from funext (hc d1).1]
          rfl
        · rw [c3, gS_congr a2 a3 ag, (hc d1).2 rfl]
  | false =>
    rw [if_neg Bool.false_ne_true] at q
    obtain ⟨z1, z2⟩ := F215 (fun hz => by rw [(hc hz).1 0]; have := hN hz; unfold NC at this; rw [if_neg Bool.false_ne_true] at this; exact this.1) h q
    rcases z2 with ⟨a1, a2, a3, a4⟩ | ⟨v, a1, a3, a4, a5, a6, m, a7⟩
    · exact ⟨z1, a2, a3, Or.inl ⟨a1, a4⟩⟩
    · have ht : f = 0 → tm30 w = tmC false c v := fun hz => by
        unfold tmC tm30
        rw [(hc hz).1 0]
        rfl
      obtain ⟨e1, e2⟩ := tm_any (p := p) (x := pl bs n i) ht
      rw [e1, e2] at a7
      refine ⟨z1, a5, a6, ?_⟩
      rcases a7 with ⟨b1, b2⟩ | ⟨b1, b2, b3⟩
      · exact Or.inr (Or.inl ⟨v, m, a1, b1, b2⟩)
      · refine Or.inr (Or.inr ⟨v, m, a1, b1, b2, fun hz => ?_⟩)
        obtain ⟨e, c1, c2⟩ := b3 hz
        obtain ⟨d1, d2⟩ := fD_0 hz
        unfold cD gD
        rw [if_pos hz, if_pos hz]
        refine ⟨NC_step (hN d1) a1 d2, fun q => ?_, fun y => Bool.noConfusion y⟩
        rw [c2 q, rowR_congr (e' := e8 bs n i m) c1, show rcl w = c from funext (hc d1).1]
        rfl
/-- the loop -/
theorem F198_128 {i1 i2 i3 : Int32} (hb : b = decide (i1 = 0)) : ∀ (k : Nat) (w : pm_W) (i : Nat) (f p : Int32) (c : Nat → Int32) (g : Int), RS w bs n i f p → (f = 0 → NC b c) → (f = 0 → CR b w c g) → PS X k 198 128 [.ref 147, .int i1, .int i2, .int i3, pm_dead, pm_dead] [] w r w' → ∃ (w1 : pm_W) (k' N : Nat) (o : OC), FM rl7 [148, 150, 151] w w1 ∧ AF w w1 ∧ RDq b bs n N i f p c g o ∧ qF w1 = o.2.1 ∧ qP w1 = o.2.2.1 ∧ (o.1 = true → o.2.1 = 1) ∧ (o.1 = false → gI w1 147 8 = 0 ∧ (gI w1 147 4).toInt = n) ∧ (o.2.1 = 0 → CR b w1 o.2.2.2.1 o.2.2.2.2) ∧ PS X k' 198 160 [.ref 147, .int i1, .int i2, .int i3, pm_dead, pm_dead] [] w1 r w' := by
  intro k
  induction k with
  | zero => intro w i f p c g h hN hc q; exact (PS_0 q).elim
  | succ k ih =>
    intro w i f p c g h hN hc q
    have hS := h.1
    have q := U198_128 hS q
    rw [if_pos h.2.1] at q
    have hT := h.2.2.1
    have hi := h.2.2.2.2.2.2.2.2.2
    by_cases ck : gI w 147 5 = 0
    · rw [if_pos ck] at q
      rw [hT.1] at ck
      have ck := rTk_0.mp ck
      have es : tkS bs n i = n := by
        have hk := ck
        unfold tkK at hk
        have sb := tkS_b (bs := bs) (n := n) (i := i)
        by_cases z : n ≤ tkS bs n i
        · omega
        · rw [if_neg z] at hk
          split at hk
          · exact absurd hk (by decide)
          · split at hk
            · split at hk
              · exact absurd hk (by decide)
              · exact absurd hk (by decide)
            · split at hk
              · exact absurd hk (by decide)
              · exact absurd hk (by decide)
      refine ⟨w, k, 1, (false, f, p, c, g), FM_refl hS, AF_refl, Or.inl ⟨ck, rfl⟩, h.2.2.2.2.2.2.1, h.2.2.2.2.2.2.2.1, fun y => Bool.noConfusion y, fun _ => ⟨h.2.1, ?_⟩, hc, q⟩
      rw [hT.2.1, es]
    · rw [if_neg ck] at q
      rw [hT.1] at ck
      have ck : tkK bs n i ≠ 0 := fun z => ck (rTk_0.mpr z)
      have q : ∃ (r3 : Option Value) (w4 : pm_W), (if b = true then PS X k 207 0 [.ref 147, pm_dead, pm_dead, pm_dead, pm_dead] [] w r3 w4 else PS X k 215 0 [.ref 147, pm_dead, pm_dead, pm_dead] [] w r3 w4) ∧ (r3 = none → SK w4 → (PS X k 198 128 [.ref 147, .int i1, .int i2, .int i3, pm_dead, pm_dead] [] w4 r w')) := by
        by_cases e : i1 = 0
        · rw [if_pos e] at q
          obtain ⟨r3, w4, q1, q2⟩ := q
          exact ⟨r3, w4, by rw [if_pos (show b = true by rw [hb, decide_eq_true e])]; exact q1, q2⟩
        · rw [if_neg e] at q
          obtain ⟨r3, w4, q1, q2⟩ := q
          exact ⟨r3, w4, by rw [if_neg (show ¬ b = true by rw [hb, decide_eq_false e]; exact Bool.false_ne_true)]; exact q1, q2⟩
      obtain ⟨r3, w4, q1, q2⟩ := q
      obtain ⟨z1, z2, z3, z4⟩ := RS_one hN h hc q1
      have hS4 := z2.2.2.2
      have q := q2 z1 hS4
      have brk : ∀ (I : Nat), BK w4 bs n I → ∃ k', PS X k' 198 160 [.ref 147, .int i1, .int i2, .int i3, pm_dead, pm_dead] [] w4 r w' := by
        intro I hB
        cases k with
        | zero => exact (PS_0 q).elim
        | succ k =>
          have q := U198_128 hS4 q
          rw [if_neg hB.2.1] at q
          exact ⟨k, q⟩
      rcases z4 with ⟨a1, a2⟩ | ⟨v, m, a1, a2, a3⟩ | ⟨v, m, a1, a2, a3, a4⟩
      · obtain ⟨k', q⟩ := brk i a2
        exact ⟨w4, k', 1, (true, 1, pl bs n i, c, g), z2, z3, Or.inr (Or.inl ⟨ck, a1, rfl⟩), a2.2.2.1, a2.2.2.2, fun _ => rfl, fun y => Bool.noConfusion y, fun y => absurd (show (1 : Int32) = 0 from y) (by decide +kernel), q⟩
      · obtain ⟨k', q⟩ := brk (tP bs n i (m + 1)) a3
        exact ⟨w4, k', 1, (true, 1, pl bs n (tP bs n i (m + 1)), c, g), z2, z3, Or.inr (Or.inr (Or.inl ⟨v, m, a1, a2, rfl⟩)), a3.2.2.1, a3.2.2.2, fun _ => rfl, fun y => Bool.noConfusion y, fun y => absurd (show (1 : Int32) = 0 from y) (by decide +kernel), q⟩
      · obtain ⟨w1, k', N, o, b1, b2, b3, b4⟩ := ih w4 _ _ _ _ _ a3 (fun hz => (a4 hz).1) (fun hz => (a4 hz).2) q
        exact ⟨w1, k', N + 1, o, FM_trans z2 b1, AF_trans z3 b2, Or.inr (Or.inr (Or.inr ⟨v, m, a1, a2, b3⟩)), b4⟩
end GJ
end
section
/-! ===== bytes with and without a sign: the same tokens; the greatest from 0 on ===== -/
section GK
variable {X : pm_X} {k : Nat} {w0 w w' : pm_W} {r : Option Value} {p p1 p2 p3 f0 p0 f q : Int32} {bs cs : Nat → Int32} {n i v j m : Nat} {b : Bool} {c : Nat → Int32} {g : Int}
def BEq (bs cs : Nat → Int32) (n : Nat) : Prop := ∀ j, j < n → cs j = bs j ∨ (isBl (bs j) = false ∧ isLt (bs j) = false ∧ isDg (bs j) = false ∧ bs j ≠ 59 ∧ isBl (cs j) = false ∧ isLt (cs j) = false ∧ isDg (cs j) = false ∧ cs j ≠ 59)
theorem BE_s (h : BEq bs cs n) (i : Nat) : tkS cs n i = tkS bs n i := by
  unfold tkS
  refine spn_congr _ _ (fun j h1 h2 => ?_)
  rcases h j (by omega) with e | e
  · rw [e]
  · rw [e.1, e.2.2.2.2.1]
theorem BE_l (h : BEq bs cs n) (i : Nat) : tkE isLt cs n i = tkE isLt bs n i := by
  unfold tkE
  refine spn_congr _ _ (fun j h1 h2 => ?_)
  rcases h j (by omega) with e | e
  · rw [e]
  · rw [e.2.1, e.2.2.2.2.2.1]
theorem BE_d (h : BEq bs cs n) (i : Nat) : tkE isDg cs n i = tkE isDg bs n i := by
  unfold tkE
  refine spn_congr _ _ (fun j h1 h2 => ?_)
  rcases h j (by omega) with e | e
  · rw [e]
  · rw [e.2.2.1, e.2.2.2.2.2.2.1]
theorem BE_k (h : BEq bs cs n) (i : Nat) : tkK cs n i = tkK bs n i ∧ tkN cs n i = tkN bs n i := by
  unfold tkK tkN
  rw [BE_s h]
  by_cases c0 : n ≤ tkS bs n i
  · rw [if_pos c0, if_pos c0, if_pos c0, if_pos c0]
    exact ⟨rfl, rfl⟩
  · rw [if_neg c0, if_neg c0, if_neg c0, if_neg c0, BE_l h, BE_d h]
    rcases h (tkS bs n i) (by omega) with e | ⟨e1, e2, e3, e4, e5, e6, e7, e8⟩
    · rw [e]
      exact ⟨rfl, rfl⟩
    · rw [e2, e3, e6, e7, if_neg Bool.false_ne_true, if_neg Bool.false_ne_true, if_neg e4, if_neg e8]
      exact ⟨rfl, rfl⟩
theorem tk_2 (h : tkK bs n i = 2) : tkS bs n i < n ∧ tkE isDg bs n (tkS bs n i) ≤ tkS bs n i + 2 := by
  unfold tkK at h
  by_cases c0 : n ≤ tkS bs n i
  · rw [if_pos c0] at h; exact absurd h (by decide)
  rw [if_neg c0] at h
  by_cases c1 : isLt (bs (tkS bs n i)) = true
  · rw [if_pos c1] at h; exact absurd h (by decide)
  rw [if_neg c1] at h
  by_cases c2 : isDg (bs (tkS bs n i)) = true
  · rw [if_pos c2] at h
    by_cases c3 : tkE isDg bs n (tkS bs n i) ≤ tkS bs n i + 2
    · exact ⟨by omega, c3⟩
    · rw [if_neg c3] at h; exact absurd h (by decide)
  · rw [if_neg c2] at h
    by_cases c4 : bs (tkS bs n i) = 59
    · rw [if_pos c4] at h; exact absurd h (by decide)
    · rw [if_neg c4] at h; exact absurd h (by decide)
theorem BE_dg (h : BEq bs cs n) (hj : j < n) (hd : isDg (bs j) = true) : cs j = bs j := by
  rcases h j hj with e | e
  · exact e
  · rw [e.2.2.1] at hd; exact Bool.noConfusion hd
theorem BE_lt (h : BEq bs cs n) (hj : j < n) (hd : isLt (bs j) = true) : cs j = bs j := by
  rcases h j hj with e | e
  · exact e
  · rw [e.2.1] at hd; exact Bool.noConfusion hd
theorem BE_v (h : BEq bs cs n) (hk : tkK bs n i = 2) : tkV cs n i = tkV bs n i := by
  obtain ⟨h1, h2⟩ := tk_2 hk
  have hb := tkE_b (P := isDg) (bs := bs) (n := n) (s := tkS bs n i)
  have ha := tkE_all (P := isDg) (bs := bs) (n := n) (n - tkS bs n i) (tkS bs n i) (Nat.le_refl _)
  unfold tkV
  rw [BE_s h, BE_d h]
  obtain ⟨t, ht⟩ : ∃ t, t = tkE isDg bs n (tkS bs n i) - tkS bs n i := ⟨_, rfl⟩
  rw [← ht]
  unfold dgV
  by_cases t0 : t = 0
  · rw [if_pos t0, if_pos t0]
  rw [if_neg t0, if_neg t0]
  have e0 : cs (tkS bs n i) = bs (tkS bs n i) := BE_dg h (by omega) (ha _ (by omega) (by omega))
  by_cases t1 : t = 1
  · rw [if_pos t1, if_pos t1, e0]
  rw [if_neg t1, if_neg t1, e0, BE_dg (j := tkS bs n i + 1) h (by omega) (ha _ (by omega) (by omega))]
theorem wdV_congr {s : Nat} : ∀ t : Nat, (∀ j, j < t → cs (s + j) = bs (s + j)) → wdV cs s t = wdV bs s t
  | 0, _ => rfl
  | t + 1, h => by
    show (if t < 6 then 32 * wdV cs s t + (cs (s + t)).toInt - 96 else wdV cs s t) = (if t < 6 then 32 * wdV bs s t + (bs (s + t)).toInt - 96 else wdV bs s t)
    rw [wdV_congr t (fun j hj => h j (by omega)), h t (by omega)]
theorem BE_w (h : BEq bs cs n) (hk : tkK bs n i = 1) : wdC cs (tkS cs n i) (tkN cs n i) = wdC bs (tkS bs n i) (tkN bs n i) := by
  have ha := tkK_1 hk
  have hb := tkN_b (bs := bs) (n := n) (i := i) (by rw [hk]; decide)
  rw [BE_s h, (BE_k h i).2]
  unfold wdC
  rw [wdV_congr (cs := cs) (bs := bs) _ (fun j hj => BE_lt h (by omega) (ha j hj))]
theorem BE_p (h : BEq bs cs n) (i : Nat) : ∀ j, tP cs n i j = tP bs n i j
  | 0 => rfl
  | j + 1 => by
    show tkN cs n (tP cs n i j) = tkN bs n (tP bs n i j)
    rw [BE_p h i j, (BE_k h _).2]
theorem BE_nv (h : BEq bs cs n) (hk : tkK bs n (tP bs n i (j + 1)) = 2) : nv cs n i j = nv bs n i j := by
  unfold nv
  rw [BE_p h]
  exact BE_v h hk
theorem BE_vb (h : BEq bs cs n) : vbT b cs n i = vbT b bs n i := by
  unfold vbT
  rw [(BE_k h i).1]
  by_cases c : tkK bs n i = 1
  · rw [if_pos c, if_pos c, BE_w h c]
  · rw [if_neg c, if_neg c]
theorem BE_pl (h : BEq bs cs n) : pl cs n i = pl bs n i := by unfold pl; rw [BE_s h]
theorem BE_FI (h : BEq bs cs n) (hf : FI cs n i v m) : FI bs n i v m := by
  obtain ⟨h1, h2, h3⟩ := hf
  rw [BE_p h, (BE_k h _).1] at h2 h3
  exact ⟨fun t ht => by have := h1 t ht; rwa [BE_p h, (BE_k h _).1] at this, h2, h3⟩
theorem BE_OK (h : BEq bs cs n) (hf : OK cs n i v m) : OK bs n i v m := by
  obtain ⟨h1, h2, h3, h4⟩ := hf
  rw [BE_p h, (BE_k h _).1] at h4
  exact ⟨fun t ht => by have := h1 t ht; rwa [BE_p h, (BE_k h _).1] at this, h2, h3, h4⟩
theorem badI_congr {x : Int} {ns ns' : Nat → Int} {l : Nat} (h : ∀ t, t < l → ns t = ns' t) : badI v l x ns ↔ badI v l x ns' := by
  unfold badI
  constructor
  · rintro (z | z | ⟨z1, z2, z3⟩ | ⟨z1, t, z2, z3, z4, z5⟩)
    · exact Or.inl z
    · exact Or.inr (Or.inl z)
    · exact Or.inr (Or.inr (Or.inl ⟨z1, z2, by rw [← h 0 (by omega)]; exact z3⟩))
    · exact Or.inr (Or.inr (Or.inr ⟨z1, t, z2, z3, z4, by rw [← h t z3]; exact z5⟩))
  · rintro (z | z | ⟨z1, z2, z3⟩ | ⟨z1, t, z2, z3, z4, z5⟩)
    · exact Or.inl z
    · exact Or.inr (Or.inl z)
    · exact Or.inr (Or.inr (Or.inl ⟨z1, z2, by rw [h 0 (by omega)]; exact z3⟩))
    · exact Or.inr (Or.inr (Or.inr ⟨z1, t, z2, z3, z4, by rw [h t z3]; exact z5⟩))
theorem BE_fJ (h : BEq bs cs n) : ∀ m : Nat, (∀ t, t < m → tkK bs n (tP bs n i (t + 1)) = 2) → fJ cs n i v f0 p0 m = fJ bs n i v f0 p0 m
  | 0, _ => rfl
  | m + 1, hk => by
    have e := BE_fJ h m (fun t ht => hk t (by omega))
    have eb : bJ cs n i v m = bJ bs n i v m := by
      refine bool_iff ?_
      rw [bJ_iff, bJ_iff, BE_nv h (hk m (by omega))]
      exact badI_congr (fun t ht => BE_nv h (hk t (by omega)))
    show (ntF (decide (8 ≤ m)) 3 (ntF (bJ cs n i v m) 2 (fJ cs n i v f0 p0 m).1), ntP (decide (8 ≤ m)) (pl cs n (tP cs n i (m + 1))) (ntF (bJ cs n i v m) 2 (fJ cs n i v f0 p0 m).1) (ntP (bJ cs n i v m) (pl cs n (tP cs n i (m + 1))) (fJ cs n i v f0 p0 m).1 (fJ cs n i v f0 p0 m).2)) = _
    rw [e, eb, BE_p h, BE_pl h]
    rfl
theorem BE_fD (h : BEq bs cs n) (ho : OK bs n i v m) : fD b cs n i f p c v m = fD b bs n i f p c v m := by
  unfold fD
  rw [BE_pl h]
  exact BE_fJ h m ho.1
theorem BE_e8 (h : BEq bs cs n) (ho : OK bs n i v m) : e8 cs n i m = e8 bs n i m := by
  funext t
  unfold e8 ns32
  by_cases z : t < m
  · rw [if_pos z, if_pos z, BE_nv h (ho.1 t z)]
  · rw [if_neg z, if_neg z]
theorem BE_RD (h : BEq bs cs n) : ∀ (N : Nat) {i : Nat} {f p : Int32} {c : Nat → Int32} {g : Int} {o : OC}, RDq b cs n N i f p c g o → RDq b bs n N i f p c g o
  | 0, _, _, _, _, _, _, q => q.elim
  | N + 1, i, f, p, c, g, o, q => by
    rcases q with ⟨h1, e⟩ | ⟨h1, h2, e⟩ | ⟨v, m, h1, h2, e⟩ | ⟨v, m, h1, h2, h3⟩
    · rw [(BE_k h i).1] at h1
      exact Or.inl ⟨h1, e⟩
    · rw [(BE_k h i).1] at h1
      rw [BE_vb h] at h2
      rw [BE_pl h] at e
      exact Or.inr (Or.inl ⟨h1, h2, e⟩)
    · rw [BE_vb h] at h1
      rw [BE_pl h, BE_p h] at e
      exact Or.inr (Or.inr (Or.inl ⟨v, m, h1, BE_FI h h2, e⟩))
    · rw [BE_vb h] at h1
      have ho := BE_OK h h2
      unfold cD gD at h3
      rw [BE_p h, BE_fD h ho, BE_e8 h ho] at h3
      exact Or.inr (Or.inr (Or.inr ⟨v, m, h1, ho, BE_RD h N h3⟩))
theorem gS_0 {e : Nat → Int32} (h12 : v ≤ 12) : gS v (max 0 g) e = max 0 (gS v g e) := by
  refine thirteen (P := fun v => gS v (max 0 g) e = max 0 (gS v g e)) h12 ?_ ?_ ?_ ?_ ?_ ?_ ?_ ?_ ?_ ?_ ?_ ?_ ?_
  · show max 0 g = max 0 g; rfl
  · show max 0 g = max 0 g; rfl
  · show max 0 g = max 0 g; rfl
  · show max 0 g = max 0 g; rfl
  · show max 0 g = max 0 g; rfl
  · show max 0 g = max 0 g; rfl
  · show max 0 g = max 0 g; rfl
  · show max (max 0 g) (max (e 0).toInt (e 1).toInt) = max 0 (max g (max (e 0).toInt (e 1).toInt)); omega
  · show max 0 g = max 0 g; rfl
  · show max (max 0 g) (e 0).toInt = max 0 (max g (e 0).toInt); omega
  · show max (max 0 g) (e 0).toInt = max 0 (max g (e 0).toInt); omega
  · show max 0 g = max 0 g; rfl
  · show max (max 0 g) (max (e 0).toInt (e 1).toInt) = max 0 (max g (max (e 0).toInt (e 1).toInt)); omega
theorem vbT_12 (h : vbT b bs n i = v) : v ≤ 12 := by
  cases b with
  | true => exact (vbT_t h).2
  | false => have := vbT_f h; omega
def og (o : OC) : OC := (o.1, o.2.1, o.2.2.1, o.2.2.2.1, max 0 o.2.2.2.2)
theorem RD_g : ∀ (N : Nat) {i : Nat} {f p : Int32} {c : Nat → Int32} {g : Int} {o : OC}, RDq b bs n N i f p c g o → RDq b bs n N i f p c (max 0 g) (og o)
  | 0, _, _, _, _, _, _, q => q.elim
  | N + 1, i, f, p, c, g, o, q => by
    rcases q with ⟨h1, e⟩ | ⟨h1, h2, e⟩ | ⟨v, m, h1, h2, e⟩ | ⟨v, m, h1, h2, h3⟩
    · exact Or.inl ⟨h1, by rw [e]; rfl⟩
    · exact Or.inr (Or.inl ⟨h1, h2, by rw [e]; rfl⟩)
    · exact Or.inr (Or.inr (Or.inl ⟨v, m, h1, h2, by rw [e]; rfl⟩))
    · have eg : gD b bs n i f p c (max 0 g) v m = max 0 (gD b bs n i f p c g v m) := by
        unfold gD
        by_cases z : (fD b bs n i f p c v m).1 = 0
        · rw [if_pos z, if_pos z, gS_0 (vbT_12 h1)]
        · rw [if_neg z, if_neg z]
      refine Or.inr (Or.inr (Or.inr ⟨v, m, h1, h2, ?_⟩))
      rw [eg]
      exact RD_g N h3
theorem og_F {o : OC} (h : b = true → 0 < (o.2.2.2.1 0).toInt) : fF b (og o) = fF b o ∧ pF b n (og o) = pF b n o := by
  have e : (b = true ∧ (og o).2.1 = 0 ∧ ((og o).2.2.2.1 0).toInt ≤ (og o).2.2.2.2) ↔ (b = true ∧ o.2.1 = 0 ∧ (o.2.2.2.1 0).toInt ≤ o.2.2.2.2) := by
    show (b = true ∧ o.2.1 = 0 ∧ (o.2.2.2.1 0).toInt ≤ max 0 o.2.2.2.2) ↔ _
    constructor
    · rintro ⟨h1, h2, h3⟩
      have := h h1
      exact ⟨h1, h2, by omega⟩
    · rintro ⟨h1, h2, h3⟩
      exact ⟨h1, h2, by omega⟩
  by_cases z : b = true ∧ o.2.1 = 0 ∧ (o.2.2.2.1 0).toInt ≤ o.2.2.2.2
  · obtain ⟨y1, y2⟩ := fF_y (n := n) z
    obtain ⟨y3, y4⟩ := fF_y (n := n) (e.mpr z)
    rw [y1, y2, y3, y4]
    exact ⟨rfl, rfl⟩
  · obtain ⟨y1, y2⟩ := fF_n (n := n) z
    obtain ⟨y3, y4⟩ := fF_n (n := n) (fun y => z (e.mp y))
    rw [y1, y2, y3, y4]
    exact ⟨rfl, rfl⟩
end GK
end
section
/-! ===== the reference's text ===== -/
section GL
variable {X : pm_X} {k : Nat} {w0 w w1 w' : pm_W} {r : Option Value} {p p1 p2 p3 f0 p0 f q : Int32} {bs cs : Nat → Int32} {n i v j m : Nat} {b : Bool} {c : Nat → Int32} {g : Int}
/-- all, by cell -/
def al (w : pm_W) (q : Nat) : Int32 := (gA w 148).getD q 0
theorem len148 (hS : SK w) : (gA w 148).length = 6760 := SK_len hS (by decide +kernel) (by decide)
theorem al_aS {x y : Int32} (hS : SK w) (hj : x.toInt = j) (h : j < 6760) (q : Nat) : al (aS w 148 x y) q = if q = j then y else al w q := by
  unfold al
  rw [gA_aS (SK_isA hS (by decide +kernel)), i_nat hj, getD_set (by rw [len148 hS]; exact h)]
theorem al_FM {fs : List (Nat × Nat)} {as : List Nat} (h : FM fs as w w1) (h8 : 148 ∉ as) : al w1 = al w := by
  funext q
  unfold al
  rw [FM_a h h8]
theorem AF_al (h : AF w w1) (q : Nat) (h3 : q ≠ 3) (h4 : q ≠ 4) : al w1 q = al w q := h.2 q h3 h4
/-- from label 160 on: the last fault -/
theorem F198_160 {i1 i2 i3 : Int32} {o : OC} (hS : SK w) (hb : b = decide (i1 = 0)) (hF : qF w = o.2.1) (hP : qP w = o.2.2.1) (hB : o.1 = true → o.2.1 = 1) (hE : o.1 = false → gI w 147 8 = 0 ∧ (gI w 147 4).toInt = n) (hn : n ≤ 600) (hC : o.2.1 = 0 → CR b w o.2.2.2.1 o.2.2.2.2) (q : PS X k 198 160 [.ref 147, .int i1, .int i2, .int i3, pm_dead, pm_dead] [] w r w') : ∃ (w1 : pm_W) (k' : Nat), FM [] [148] w w1 ∧ AF w w1 ∧ qF w1 = fF b o ∧ qP w1 = pF b n o ∧ PS X k' 198 195 [.ref 147, .int i1, .int i2, .int i3, pm_dead, pm_dead] [] w1 r w' := by
  cases k with
  | zero => exact (PS_0 q).elim
  | succ k =>
    obtain ⟨_, q⟩ := U198_160 hS q
    rw [show aG w 148 3 = qF w from aG_n (m := 3) three32] at q
    by_cases z : qF w = 0
    · rw [if_pos z] at q
      have z1 : o.2.1 = 0 := by rw [← hF]; exact z
      by_cases e1 : i1 = 0
      · rw [if_pos e1] at q
        have hbt : b = true := by rw [hb, decide_eq_true e1]
        obtain ⟨c1, c2⟩ := hC z1
        obtain ⟨_, q⟩ := q
        rw [show aG w 150 0 = rcl w 0 from aG_n (m := 0) z32, c1 0] at q
        have c2 := c2 hbt
        have hbf : o.1 = false := by
          cases h1 : o.1 with
          | false => rfl
          | true => have := hB h1; rw [z1] at this; exact absurd this (by decide +kernel)
        obtain ⟨d1, d2⟩ := hE hbf
        by_cases y : gI w 147 9 < o.2.2.2.1 0
        · rw [if_pos y] at q
          rw [Int32.lt_iff_toInt_lt, c2] at y
          obtain ⟨y1, y2⟩ := fF_n (b := b) (n := n) (o := o) (fun x => by have := x.2.2; omega)
          exact ⟨w, k, FM_refl hS, AF_refl, by rw [y1, hF], by rw [y2, hP], q⟩
        · rw [if_neg y] at q
          rw [Int32.lt_iff_toInt_lt, c2] at y
          obtain ⟨y1, y2⟩ := fF_y (b := b) (n := n) (o := o) ⟨hbt, z1, by omega⟩
          obtain ⟨r1, w2, q1, q2⟩ := q
          obtain ⟨a1, a2, a3, _, a5⟩ := F211 hS q1
          obtain ⟨_, a6⟩ := a5 d1
          obtain ⟨a7, a8⟩ := a6 (fun x => x.1 z)
          exact ⟨w2, k, a2, a3, by rw [y1]; exact a7, by rw [y2, a8]; exact i32_of d2 (by omega), q2 a1 a2.2.2.2⟩
      · rw [if_neg e1] at q
        have hbt : b = false := by rw [hb, decide_eq_false e1]
        obtain ⟨y1, y2⟩ := fF_n (b := b) (n := n) (o := o) (fun x => by rw [hbt] at x; exact Bool.noConfusion x.1)
        exact ⟨w, k, FM_refl hS, AF_refl, by rw [y1, hF], by rw [y2, hP], q⟩
    · rw [if_neg z] at q
      obtain ⟨y1, y2⟩ := fF_n (b := b) (n := n) (o := o) (fun x => z (by rw [hF]; exact x.2.1))
      exact ⟨w, k, FM_refl hS, AF_refl, by rw [y1, hF], by rw [y2, hP], q⟩
/-- read[] cleared, the first token -/
theorem L198_89 {i1 i2 : Int32} (hb : b = decide (i1 = 0)) : ∀ (k : Nat) (w : pm_W) (t : Nat) (i3 : Int32), SK w → i3.toInt = t → t ≤ 272 → (∀ q, q < t → rcl w q = 0) → PS X k 198 89 [.ref 147, .int i1, .int i2, .int i3, pm_dead, pm_dead] [] w r w' → ∃ (w1 : pm_W) (k' : Nat) (i3' : Int32) (r5 : Option Value) (w6 : pm_W), FM [] [150] w w1 ∧ (∀ q, rcl w1 q = i0 b q) ∧ PS X k' 201 0 [.ref 147, pm_dead, pm_dead] [] w1 r5 w6 ∧ (r5 = none → SK w6 → PS X k' 198 128 [.ref 147, .int i1, .int i2, .int i3', pm_dead, pm_dead] [] w6 r w') := by
  intro k
  have e272 : (272 : Int32).toInt = 272 := by decide +kernel
  induction k with
  | zero => intro w t i3 hS h3 ht hz q; exact (PS_0 q).elim
  | succ k ih =>
    intro w t i3 hS h3 ht hz q
    have q := U198_89 hS q
    by_cases c1 : 272 ≤ i3
    · rw [if_pos c1] at q
      rw [Int32.le_iff_toInt_le, e272] at c1
      have hz' : ∀ q, rcl w q = 0 := fun q => by
        by_cases y : q < 272
        · exact hz q (by omega)
        · unfold rcl
          rw [List.getD_eq_getElem?_getD, List.getElem?_eq_none (by rw [len150 hS]; omega)]
          rfl
      by_cases e1 : i1 = 0
      · rw [if_pos e1] at q
        obtain ⟨hI, q⟩ := q
        obtain ⟨r5, w6, q1, q2⟩ := q _ rfl
        refine ⟨_, k, i3, r5, w6, FM_aS hS (by decide), fun j => ?_, q1, q2⟩
        have e : rcl (aS w 150 0 4) j = if j = 0 then 4 else rcl w j := by
          unfold rcl
          rw [gA_aS (aI_isA hI), i_nat (n := 0) z32, getD_set (by rw [len150 hS]; decide)]
        rw [e, hz' j, hb, decide_eq_true e1]
        rfl
      · rw [if_neg e1] at q
        obtain ⟨hI, q⟩ := q
        obtain ⟨r5, w6, q1, q2⟩ := q _ rfl
        refine ⟨_, k, i3, r5, w6, FM_aS hS (by decide), fun j => ?_, q1, q2⟩
        have e : rcl (aS w 150 0 0) j = if j = 0 then 0 else rcl w j := by
          unfold rcl
          rw [gA_aS (aI_isA hI), i_nat (n := 0) z32, getD_set (by rw [len150 hS]; decide)]
        rw [e, hz' j, hb, decide_eq_false e1]
        show (if j = 0 then (0 : Int32) else 0) = 0
        split <;> rfl
    · rw [if_neg c1] at q
      rw [Int32.le_iff_toInt_le, e272] at c1
      obtain ⟨hI, q⟩ := q
      have q := q _ rfl
      obtain ⟨w1, k', i3', r5, w6, a1, a2, a3⟩ := ih _ (t + 1) (i3 + 1) (SK_aS hS) (by rw [zi_inc (n := 272) (by omega) (by omega), h3]; rfl) (by omega) (fun j hj => by
        have e : rcl (aS w 150 i3 0) j = if j = t then 0 else rcl w j := by
          unfold rcl
          rw [gA_aS (aI_isA hI), i_nat h3, getD_set (by rw [len150 hS]; omega)]
        rw [e]
        by_cases y : j = t
        · rw [if_pos y]
        · rw [if_neg y]; exact hz j (by omega)) q
      exact ⟨w1, k', i3', r5, w6, FM_trans (FM_aS hS (by decide)) a1, a2, a3⟩
/-- the copy -/
theorem L198_255 {i1 i2 i3 i4 : Int32} {B N κ : Nat} (h3 : i3.toInt = κ) (hB : (i1 = 0 ∧ B = 610 + 132 * κ ∧ N = 132 ∧ κ ≤ 1) ∨ (i1 ≠ 0 ∧ B = 874 + 272 * κ ∧ N = 272 ∧ κ ≤ 2)) (h4 : i4.toInt = N) : ∀ (k : Nat) (w : pm_W) (t : Nat) (i5 : Int32), SK w → i5.toInt = t → t ≤ N → PS X k 198 255 [.ref 147, .int i1, .int i2, .int i3, .int i4, .int i5] [] w r w' → r = some (.int i3) ∧ FM [] [148] w w' ∧ ∀ q, al w' q = if B + t ≤ q ∧ q < B + N then rcl w (q - B) else al w q := by
  intro k
  have e132 : (132 : Int32).toInt = 132 := by decide +kernel
  have e272 : (272 : Int32).toInt = 272 := by decide +kernel
  have e610 : (610 : Int32).toInt = 610 := by decide +kernel
  have e874 : (874 : Int32).toInt = 874 := by decide +kernel
  induction k with
  | zero => intro w t i5 hS h5 ht q; exact (PS_0 q).elim
  | succ k ih =>
    intro w t i5 hS h5 ht q
    have q := U198_255 hS q
    by_cases c1 : i4 ≤ i5
    · rw [if_pos c1] at q
      rw [Int32.le_iff_toInt_le] at c1
      obtain ⟨q1, q2⟩ := q
      subst w'
      exact ⟨q1, FM_refl hS, fun q => by rw [if_neg (by omega)]⟩
    · rw [if_neg c1] at q
      rw [Int32.le_iff_toInt_le] at c1
      obtain ⟨r1, w2, q1, q2⟩ := q
      have hx : ∃ x : Int32, r1 = some (.int x) ∧ w2 = w ∧ x.toInt = B := by
        cases k with
        | zero => exact (PS_0 q1).elim
        | succ k =>
          have q1 := U217_0 hS q1
          rcases hB with ⟨b1, b2, b3, b4⟩ | ⟨b1, b2, b3, b4⟩
          · rw [if_pos b1] at q1
            refine ⟨_, q1.1, q1.2, ?_⟩
            rw [zi_add e610 (zi_mul e132 h3 (by omega) (by omega)) (by omega) (by omega)]
            omega
          · rw [if_neg b1] at q1
            refine ⟨_, q1.1, q1.2, ?_⟩
            rw [zi_add e874 (zi_mul e272 h3 (by omega) (by omega)) (by omega) (by omega)]
            omega
      obtain ⟨x, x1, x2, x3⟩ := hx
      subst w2
      obtain ⟨_, _, q⟩ := q2 x x1 hS
      have q := q _ rfl
      have ei : (x + i5).toInt = (B + t : Nat) := by rw [zi_add x3 h5 (by omega) (by omega)]; rfl
      have hB6 : B + N ≤ 6760 := by omega
      rw [aG_n (m := t) h5] at q
      obtain ⟨a1, a2, a3⟩ := ih _ (t + 1) (i5 + 1) (SK_aS hS) (by rw [zi_inc (n := 272) (by omega) (by omega), h5]; rfl) (by omega) q
      have f1 : FM [] [148] w (aS w 148 (x + i5) ((gA w 150).getD t 0)) := FM_aS hS (by decide)
      refine ⟨a1, FM_trans f1 a2, fun q => ?_⟩
      rw [a3 q, al_aS hS ei (by omega)]
      have er : ∀ j, rcl (aS w 148 (x + i5) ((gA w 150).getD t 0)) j = rcl w j := fun j => by unfold rcl; rw [FM_a f1 (by decide)]
      by_cases y1 : B + (t + 1) ≤ q ∧ q < B + N
      · rw [if_pos y1, if_pos (by omega), er]
      · rw [if_neg y1]
        by_cases y2 : q = B + t
        · rw [if_pos y2, if_pos (by omega), y2, show B + t - B = t by omega]
          rfl
        · rw [if_neg y2, if_neg (by omega)]
end GL
end
section
/-! ===== the reference's text, as a whole ===== -/
section GMM
variable {X : pm_X} {k : Nat} {w0 w w1 w' : pm_W} {r : Option Value} {p p1 p2 p3 f0 p0 f q : Int32} {bs cs : Nat → Int32} {n i v j m : Nat} {b : Bool} {c : Nat → Int32} {g : Int}
/-- the number of what a text is told as; -1 none -/
def plcF (s a vc rc : Int32) : Int32 := if s = 0 then (if a = -1 then (if vc.toInt < 2 then vc else -1) else if 0 ≤ a.toInt ∧ a.toInt < vc.toInt then a else -1) else if s = 1 then (if a = -1 then (if rc.toInt < 3 then rc else -1) else if 0 ≤ a.toInt ∧ a.toInt < rc.toInt then a else -1) else -1
theorem ntP_z {b : Bool} {kd f q : Int32} (hk : kd ≠ 0) (h : ntF b kd f = 0) : ntP b q f p = p := by
  obtain ⟨_, h2⟩ := ntF_z hk h
  rw [h2]
  rfl
theorem fJ_p : ∀ m : Nat, (fJ bs n i v f0 p0 m).1 = 0 → (fJ bs n i v f0 p0 m).2 = p0
  | 0, _ => rfl
  | m + 1, h => by
    have h : ntF (decide (8 ≤ m)) 3 (ntF (bJ bs n i v m) 2 (fJ bs n i v f0 p0 m).1) = 0 := h
    have h1 := (ntF_z (by decide +kernel) h).1
    have h2 := (ntF_z (by decide +kernel) h1).1
    show ntP (decide (8 ≤ m)) (pl bs n (tP bs n i (m + 1))) (ntF (bJ bs n i v m) 2 (fJ bs n i v f0 p0 m).1) (ntP (bJ bs n i v m) (pl bs n (tP bs n i (m + 1))) (fJ bs n i v f0 p0 m).1 (fJ bs n i v f0 p0 m).2) = p0
    rw [ntP_z (kd := 3) (by decide +kernel) h, ntP_z (kd := 2) (by decide +kernel) h1]
    exact fJ_p m h2
theorem RD_p : ∀ (N : Nat) {i : Nat} {f p : Int32} {c : Nat → Int32} {g : Int} {o : OC}, RDq b bs n N i f p c g o → (f = 0 → p = -1) → o.2.1 = 0 → o.2.2.1 = -1
  | 0, _, _, _, _, _, _, q, _, _ => q.elim
  | N + 1, i, f, p, c, g, o, q, hp, ho => by
    rcases q with ⟨h1, e⟩ | ⟨h1, h2, e⟩ | ⟨v, m, h1, h2, e⟩ | ⟨v, m, h1, h2, h3⟩
    · rw [e] at ho ⊢
      exact hp ho
    · rw [e] at ho
      exact absurd (show (1 : Int32) = 0 from ho) (by decide +kernel)
    · rw [e] at ho
      exact absurd (show (1 : Int32) = 0 from ho) (by decide +kernel)
    · refine RD_p N h3 (fun hz => ?_) ho
      have e : (fD b bs n i f p c v m).2 = ntP (tmC b c v) (pl bs n i) f p := fJ_p m hz
      rw [e, ntP_z (kd := 3) (by decide +kernel) (fJ_00 m hz)]
      exact hp (fD_0 hz).1
theorem fF_0 {o : OC} (h : fF b o = 0) : o.2.1 = 0 ∧ pF b n o = o.2.2.1 := by
  by_cases z : b = true ∧ o.2.1 = 0 ∧ (o.2.2.2.1 0).toInt ≤ o.2.2.2.2
  · rw [(fF_y (n := n) z).1] at h
    exact absurd h (by decide +kernel)
  · obtain ⟨y1, y2⟩ := fF_n (b := b) (n := n) z
    rw [y1] at h
    exact ⟨h, y2⟩
theorem plc_eq {s a vc rc cnt : Int32} {s0 : Nat} (hs : (s = 0 ∧ cnt = vc ∧ s0 = 0) ∨ (s = 1 ∧ cnt = rc ∧ s0 = 1)) : plcF s a vc rc = if a = -1 then (if cnt.toInt < (s0 + 2 : Nat) then cnt else -1) else if 0 ≤ a.toInt ∧ a.toInt < cnt.toInt then a else -1 := by
  unfold plcF
  rcases hs with ⟨h1, h2, h3⟩ | ⟨h1, h2, h3⟩
  · rw [if_pos h1, h2, h3]
    rfl
  · rw [if_neg (by rw [h1]; decide +kernel), if_pos h1, h2, h3]
    rfl
/-- what is told behind a text that was taken -/
def tlN (b : Bool) (κ : Nat) (c a : Nat → Int32) (cnt : Int32) (s0 : Nat) (q : Nat) : Int32 := if q = 2 then 0 else if q = 3 then 0 else if q = 4 then -1 else if q = s0 then cnt else if (cond b 610 874) + (cond b 132 272) * κ ≤ q ∧ q < (cond b 610 874) + (cond b 132 272) * κ + (cond b 132 272) then c (q - ((cond b 610 874) + (cond b 132 272) * κ)) else a q
theorem F198 (hS : SK w) (hL0 : 0 ≤ (al w 2).toInt) (hL6 : (al w 2).toInt ≤ 600) (hn : n = (al w 2).toInt.toNat) (hB : ∀ i, i < n → 0 ≤ (rb w i).toInt) (h00 : 0 ≤ (al w 0).toInt) (h01 : (al w 0).toInt ≤ 2) (h10 : 0 ≤ (al w 1).toInt) (h11 : (al w 1).toInt ≤ 3) (hb : b = decide (p1 = 0)) (h : PS X k 198 0 [.ref 147, .int p1, .int p2, pm_dead, pm_dead, pm_dead] [] w r w') : FM ((147, 2) :: rl7) [148, 150, 151] w w' ∧ ((plcF p1 p2 (al w 0) (al w 1) = -1 ∧ r = some (.int (-2)) ∧ ∀ q, al w' q = if q = 4 then -1 else if q = 3 then 0 else if q = 2 then 0 else al w q) ∨ (plcF p1 p2 (al w 0) (al w 1) ≠ -1 ∧ ∃ (N : Nat) (o : OC), RDq b (rb w) n N 0 0 (-1) (i0 b) 0 o ∧ ((fF b o ≠ 0 ∧ r = some (.int (-1)) ∧ ∀ q, al w' q = if q = 3 then fF b o else if q = 4 then pF b n o else if q = 2 then 0 else al w q) ∨ (fF b o = 0 ∧ r = some (.int (plcF p1 p2 (al w 0) (al w 1))) ∧ ∃ (s0 : Nat) (cnt : Int32), ((p1 = 0 ∧ cnt = al w 0 ∧ s0 = 0) ∨ (p1 = 1 ∧ cnt = al w 1 ∧ s0 = 1)) ∧ ∀ q, al w' q = tlN b (plcF p1 p2 (al w 0) (al w 1)).toInt.toNat o.2.2.2.1 (al w) (if p2 = -1 then cnt + 1 else cnt) s0 q)))) := by
  have m1 : ((-1 : Int32)).toInt = -1 := by decide +kernel
  cases k with
  | zero => exact (PS_0 h).elim
  | succ k =>
    obtain ⟨_, h⟩ := U198_0 hS h
    obtain ⟨_, h⟩ := h _ rfl
    obtain ⟨_, h⟩ := h _ rfl
    obtain ⟨_, h⟩ := h _ rfl
    have h := h _ rfl
    have e2 : aG w 148 2 = al w 2 := aG_n (m := 2) two32
    rw [e2] at h
    obtain ⟨wa, ea⟩ : ∃ wa, wa = sI w 147 2 (al w 2) := ⟨_, rfl⟩
    rw [← ea] at h
    obtain ⟨w4, e4⟩ : ∃ w4, w4 = aS (aS (aS wa 148 2 0) 148 3 0) 148 4 (-1) := ⟨_, rfl⟩
    rw [← e4] at h
    have fa : FM ((147, 2) :: rl7) [148, 150, 151] w wa := by rw [ea]; exact FM_sI hS (by decide)
    have ga : gI wa 147 2 = al w 2 := by rw [ea, gI_sI (SK_isF hS (by decide +kernel))]
    have Sa := fa.2.2.2
    have fa4 : FM [] [148] wa w4 := by
      rw [e4]
      exact FM_trans (FM_aS Sa (by decide)) (FM_trans (FM_aS (SK_aS Sa) (by decide)) (FM_aS (SK_aS (SK_aS Sa)) (by decide)))
    have f4 : FM ((147, 2) :: rl7) [148, 150, 151] w w4 := FM_trans fa (FM_mono fa4 (by decide) (by decide))
    have S4 := f4.2.2.2
    have ala : ∀ q, al wa q = al w q := fun q => by rw [ea]; show (gA (sI w 147 2 (al w 2)) 148).getD q 0 = _; rw [gA_sI]; rfl
    have al4 : ∀ q, al w4 q = if q = 4 then -1 else if q = 3 then 0 else if q = 2 then 0 else al w q := fun q => by
      rw [e4, al_aS (SK_aS (SK_aS Sa)) four32 (by decide), al_aS (SK_aS Sa) three32 (by decide), al_aS Sa two32 (by decide), ala]
    have h := use_p S4 h (fun _ _ z => F199 S4 z)
    have f69 : ∀ k', PS X k' 198 69 [.ref 147, .int p1, .int p2, pm_dead, pm_dead, pm_dead] [] w4 r w' → r = some (.int (-2)) ∧ w' = w4 := by
      intro k' z
      cases k' with
      | zero => exact (PS_0 z).elim
      | succ k' => exact U198_69 S4 z
    have nop : ∀ k', plcF p1 p2 (al w 0) (al w 1) = -1 → PS X k' 198 69 [.ref 147, .int p1, .int p2, pm_dead, pm_dead, pm_dead] [] w4 r w' → FM ((147, 2) :: rl7) [148, 150, 151] w w' ∧ (plcF p1 p2 (al w 0) (al w 1) = -1 ∧ r = some (.int (-2)) ∧ ∀ q, al w' q = if q = 4 then -1 else if q = 3 then 0 else if q = 2 then 0 else al w q) := by
      intro k' e z
      obtain ⟨z1, z2⟩ := f69 k' z
      subst w'
      exact ⟨f4, e, z1, al4⟩
    have e1 : (1 : Int32).toInt = 1 := o32
    by_cases ci : b2i (isI p1 0 1) = 0
    · rw [if_pos ci] at h
      have ci := b2i_0.mp ci
      have n0 : p1 ≠ 0 := fun z => by rw [z] at ci; exact absurd ci (by decide +kernel)
      have n1 : p1 ≠ 1 := fun z => by rw [z] at ci; exact absurd ci (by decide +kernel)
      have ep : plcF p1 p2 (al w 0) (al w 1) = -1 := by
        unfold plcF
        rw [if_neg n0, if_neg n1]
      obtain ⟨z1, z2⟩ := nop _ ep h
      exact ⟨z1, Or.inl z2⟩
    · rw [if_neg ci] at h
      have ci : isI p1 0 1 = true := by
        cases hh : isI p1 0 1 with
        | true => rfl
        | false => exact absurd (b2i_0.mpr hh) ci
      unfold isI at ci
      rw [Bool.and_eq_true, decide_eq_true_iff, decide_eq_true_iff, z32, o32] at ci
      obtain ⟨s0, cnt, hs, hs0, hs1⟩ : ∃ (s0 : Nat) (cnt : Int32), ((p1 = 0 ∧ cnt = al w 0 ∧ s0 = 0) ∨ (p1 = 1 ∧ cnt = al w 1 ∧ s0 = 1)) ∧ p1.toInt = s0 ∧ s0 ≤ 1 := by
        by_cases z : p1 = 0
        · exact ⟨0, _, Or.inl ⟨z, rfl, rfl⟩, by rw [z]; rfl, by decide⟩
        · have z1 : p1 = 1 := Int32.toInt_inj.mp (by rw [o32]; have : p1.toInt ≠ 0 := fun y => z (Int32.toInt_inj.mp (by rw [y, z32])); omega)
          exact ⟨1, _, Or.inr ⟨z1, rfl, rfl⟩, by rw [z1, o32]; rfl, by decide⟩
      have hcnt : al w4 s0 = cnt ∧ al w s0 = cnt := by
        rcases hs with ⟨_, h2, h3⟩ | ⟨_, h2, h3⟩
        · rw [h2, h3, al4]; exact ⟨rfl, rfl⟩
        · rw [h2, h3, al4]; exact ⟨rfl, rfl⟩
      have hc0 : 0 ≤ cnt.toInt ∧ cnt.toInt ≤ 3 := by
        rcases hs with ⟨_, h2, h3⟩ | ⟨_, h2, h3⟩
        · rw [h2]; omega
        · rw [h2]; omega
      have ep := plc_eq (a := p2) hs
      have aGe : aG w4 148 p1 = cnt := (aG_n (m := s0) hs0).trans hcnt.1
      have elim2 : (0 : Int) ≤ (p1 + 2).toInt ∧ (p1 + 2).toInt = (s0 + 2 : Nat) := by
        rw [zi_add hs0 two32 (by omega) (by omega)]
        omega
      have go : (plcF p1 p2 (al w 0) (al w 1) = -1 ∧ ∃ k', PS X k' 198 69 [.ref 147, .int p1, .int p2, pm_dead, pm_dead, pm_dead] [] w4 r w') ∨ (plcF p1 p2 (al w 0) (al w 1) ≠ -1 ∧ ∃ k', PS X k' 198 72 [.ref 147, .int p1, .int p2, pm_dead, pm_dead, pm_dead] [] w4 r w') := by
        rw [ep]
        by_cases ea1 : p2 = -1
        · rw [if_pos ea1] at h ⊢
          obtain ⟨_, h⟩ := h
          rw [aGe] at h
          by_cases lt : cnt < p1 + 2
          · rw [if_pos lt] at h
            rw [Int32.lt_iff_toInt_lt, elim2.2] at lt
            rw [if_pos lt]
            exact Or.inr ⟨fun z => by rw [z, m1] at hc0; omega, _, h⟩
          · rw [if_neg lt] at h
            rw [Int32.lt_iff_toInt_lt, elim2.2] at lt
            rw [if_neg lt]
            exact Or.inl ⟨rfl, _, h⟩
        · rw [if_neg ea1] at h ⊢
          have F200 : ∀ r8 w9, PS X k 200 0 [.ref 147, .int p1, .int p2] [] w4 r8 w9 → r8 = some (.int (b2i (isI p2 0 (cnt - 1)))) ∧ w9 = w4 := by
            intro r8 w9 z
            cases k with
            | zero => exact (PS_0 z).elim
            | succ k =>
              obtain ⟨_, z⟩ := U200_0 S4 z
              rw [aGe] at z
              exact use_p S4 z (fun _ _ z => F199 S4 z)
          have h := use_p S4 h F200
          have ec : (cnt - 1).toInt = cnt.toInt - 1 := zi_sub rfl o32 (by omega) (by omega)
          by_cases cz : b2i (isI p2 0 (cnt - 1)) = 0
          · rw [if_pos cz] at h
            have cz := b2i_0.mp cz
            unfold isI at cz
            rw [z32, ec] at cz
            rw [if_neg (fun y => by
              rw [decide_eq_true y.1, decide_eq_true (by omega : p2.toInt ≤ cnt.toInt - 1)] at cz
              exact absurd cz (by decide))]
            exact Or.inl ⟨rfl, _, h⟩
          · rw [if_neg cz] at h
            have cz : isI p2 0 (cnt - 1) = true := by
              cases hh : isI p2 0 (cnt - 1) with
              | true => rfl
              | false => exact absurd (b2i_0.mpr hh) cz
            unfold isI at cz
            rw [Bool.and_eq_true, decide_eq_true_iff, decide_eq_true_iff, z32, ec] at cz
            rw [if_pos ⟨cz.1, by omega⟩]
            exact Or.inr ⟨ea1, _, h⟩
      rcases go with ⟨e, k', z⟩ | ⟨e, k', z⟩
      · obtain ⟨z1, z2⟩ := nop _ e z
        exact ⟨z1, Or.inl z2⟩
      · cases k' with
        | zero => exact (PS_0 z).elim
        | succ k' =>
          have z := U198_72 S4 z _ rfl _ rfl _ rfl
          obtain ⟨w7, e7⟩ : ∃ w7, w7 = sI (sI (sI w4 147 3 0) 147 8 0) 147 9 0 := ⟨_, rfl⟩
          rw [← e7] at z
          have s1 : FM [(147, 3), (147, 8), (147, 9)] [] w4 (sI w4 147 3 0) := FM_sI S4 (by decide)
          have s2 : FM [(147, 3), (147, 8), (147, 9)] [] (sI w4 147 3 0) (sI (sI w4 147 3 0) 147 8 0) := FM_sI s1.2.2.2 (by decide)
          have s3 : FM [(147, 3), (147, 8), (147, 9)] [] (sI (sI w4 147 3 0) 147 8 0) w7 := by rw [e7]; exact FM_sI s2.2.2.2 (by decide)
          have f7 := FM_trans s1 (FM_trans s2 s3)
          have g3 : gI w7 147 3 = 0 := by rw [e7, gI_sI_ne (by decide), gI_sI_ne (by decide), gI_sI (SK_isF S4 (by decide +kernel))]
          have g8 : gI w7 147 8 = 0 := by rw [e7, gI_sI_ne (by decide), gI_sI (SK_isF s1.2.2.2 (by decide +kernel))]
          have g9 : gI w7 147 9 = 0 := by rw [e7, gI_sI (SK_isF s2.2.2.2 (by decide +kernel))]
          have S7 := f7.2.2.2
          obtain ⟨w8, k8, i3', r5, w9, f8, c8, q1, q2⟩ := L198_89 hb _ w7 0 0 S7 z32 (by decide) (fun q hq => absurd hq (Nat.not_lt_zero q)) z
          have S8 := f8.2.2.2
          have f48 : FM ((147, 2) :: rl7) [148, 150, 151] w4 w8 := FM_trans (FM_mono f7 (by decide) (by decide)) (FM_mono f8 (by decide) (by decide))
          have al8 : al w8 = al w4 := (al_FM f8 (by decide)).trans (al_FM f7 (by intro z; cases z))
          have rb8 : rb w8 = rb w := by
            funext i
            show al w8 (10 + i) = al w (10 + i)
            rw [al8, al4, if_neg (by omega), if_neg (by omega), if_neg (by omega)]
          have g2 : gI w8 147 2 = al w 2 := by rw [FM_i f8 (by decide), FM_i f7 (by decide), FM_i fa4 (by intro z; cases z), ga]
          have rn8 : rn w8 = n := by unfold rn; rw [g2, hn]
          have hR8 : RB w8 := by
            unfold RB
            rw [g2, rn8, rb8]
            exact ⟨hL0, hL6, hB⟩
          have g38 : gI w8 147 3 = 0 := by rw [FM_i f8 (by intro z; cases z)]; exact g3
          obtain ⟨a1, a2, a3⟩ := F201 S8 hR8 (by rw [g38]; decide) q1
          have S9 := a2.2.2.2
          have z := q2 a1 S9
          have rat8 : rat w8 = 0 := by unfold rat; rw [g38]; rfl
          unfold TKr at a3
          rw [rb8, rn8, rat8] at a3
          have hRS : RS w9 (rb w) n 0 0 (-1) := by
            have al9 : al w9 = al w8 := al_FM a2 (by intro z; cases z)
            refine ⟨S9, ?_, a3, (rb_FM a2 (by intro z; cases z)).trans rb8, (rn_FM a2 (by decide)).trans rn8, RB_FM hR8 a2 (by decide) (by intro z; cases z), ?_, ?_, fun y => absurd rfl y, Nat.zero_le _⟩
            · rw [FM_i a2 (by decide), FM_i f8 (by intro z; cases z)]; exact g8
            · show al w9 3 = 0
              rw [al9, al8, al4]
              rfl
            · show al w9 4 = -1
              rw [al9, al8, al4]
              rfl
          have hNC : NC b (i0 b) := by
            unfold NC
            cases b with
            | true => rw [if_pos rfl]; decide +kernel
            | false => rw [if_neg Bool.false_ne_true]; decide +kernel
          have hCR : CR b w9 (i0 b) 0 := by
            refine ⟨fun q => ?_, fun _ => ?_⟩
            · have e : rcl w9 q = rcl w8 q := by unfold rcl; rw [FM_a a2 (by intro z; cases z)]
              rw [e]; exact c8 q
            · rw [FM_i a2 (by decide), FM_i f8 (by intro z; cases z), g9]; decide
          have n6 : n ≤ 600 := by omega
          obtain ⟨w10, k10, N, o, b1, b2, b3, b4, b5, b6, b7, b8, z⟩ := F198_128 hb _ w9 0 0 (-1) (i0 b) 0 hRS (fun _ => hNC) (fun _ => hCR) z
          obtain ⟨w11, k11, c1, c2, c3, c4, z⟩ := F198_160 b1.2.2.2 hb b4 b5 b6 b7 n6 b8 z
          have S11 := c1.2.2.2
          have f9 : FM ((147, 2) :: rl7) [148, 150, 151] w w9 := FM_trans f4 (FM_trans f48 (FM_mono a2 (by decide) (by decide)))
          have f11 : FM ((147, 2) :: rl7) [148, 150, 151] w w11 := FM_trans f9 (FM_trans (FM_mono b1 (by decide) (by decide)) (FM_mono c1 (by decide) (by decide)))
          have al11 : ∀ q, al w11 q = if q = 3 then fF b o else if q = 4 then pF b n o else if q = 2 then 0 else al w q := by
            intro q
            by_cases q3 : q = 3
            · rw [if_pos q3, q3]; exact c3
            · rw [if_neg q3]
              by_cases q4 : q = 4
              · rw [if_pos q4, q4]; exact c4
              · rw [if_neg q4, AF_al c2 q q3 q4, AF_al b2 q q3 q4, al_FM a2 (by intro z; cases z), al8, al4, if_neg q4, if_neg q3]
          cases k11 with
          | zero => exact (PS_0 z).elim
          | succ k11 =>
            obtain ⟨_, z⟩ := U198_195 S11 z
            rw [show aG w11 148 3 = fF b o from (aG_n (m := 3) three32).trans c3] at z
            by_cases cf : fF b o = 0
            · rw [if_pos cf] at z
              obtain ⟨o0, op⟩ := fF_0 (n := n) cf
              have oc := b8 o0
              have pm1 : pF b n o = -1 := op.trans (RD_p N b3 (fun _ => rfl) o0)
              -- the number, the count
              have go : ∃ (w12 : pm_W) (k12 : Nat), FM [] [148] w11 w12 ∧ (∀ q, al w12 q = if q = s0 then (if p2 = -1 then cnt + 1 else cnt) else al w11 q) ∧ PS X k12 198 237 [.ref 147, .int p1, .int p2, .int (plcF p1 p2 (al w 0) (al w 1)), pm_dead, pm_dead] [] w12 r w' := by
                have acnt : aG w11 148 p1 = cnt := by
                  rw [aG_n (m := s0) hs0]
                  show al w11 s0 = cnt
                  rw [al11, if_neg (by omega), if_neg (by omega), if_neg (by omega)]
                  exact hcnt.2
                by_cases ea1 : p2 = -1
                · rw [if_pos ea1] at z
                  obtain ⟨_, z⟩ := z
                  rw [if_pos ea1] at z
                  obtain ⟨_, _, z⟩ := z
                  have z := z _ rfl
                  rw [acnt] at z
                  have epc : plcF p1 p2 (al w 0) (al w 1) = cnt := by
                    rw [ep, if_pos ea1] at e ⊢
                    by_cases lt : cnt.toInt < (s0 + 2 : Nat)
                    · rw [if_pos lt]
                    · rw [if_neg lt] at e; exact absurd rfl e
                  rw [epc]
                  exact ⟨_, _, FM_aS S11 (by decide), fun q => by rw [al_aS S11 hs0 (by omega), if_pos ea1], z⟩
                · rw [if_neg ea1, if_neg ea1] at z
                  have epc : plcF p1 p2 (al w 0) (al w 1) = p2 := by
                    rw [ep, if_neg ea1] at e ⊢
                    by_cases lt : 0 ≤ p2.toInt ∧ p2.toInt < cnt.toInt
                    · rw [if_pos lt]
                    · rw [if_neg lt] at e; exact absurd rfl e
                  rw [epc]
                  refine ⟨w11, _, FM_refl S11, fun q => ?_, z⟩
                  rw [if_neg ea1]
                  by_cases y : q = s0
                  · rw [if_pos y, y, al11, if_neg (by omega), if_neg (by omega), if_neg (by omega)]; exact hcnt.2
                  · rw [if_neg y]
              obtain ⟨w12, k12, f12, al12, z⟩ := go
              obtain ⟨PL, hPL⟩ : ∃ PL, PL = plcF p1 p2 (al w 0) (al w 1) := ⟨_, rfl⟩
              rw [← hPL] at z e ep ⊢
              have hPr : 0 ≤ PL.toInt ∧ PL.toInt ≤ (s0 + 1 : Nat) := by
                rw [ep] at e ⊢
                by_cases ea1 : p2 = -1
                · rw [if_pos ea1] at e ⊢
                  by_cases lt : cnt.toInt < (s0 + 2 : Nat)
                  · rw [if_pos lt] at e ⊢; omega
                  · rw [if_neg lt] at e; exact absurd rfl e
                · rw [if_neg ea1] at e ⊢
                  have hc2 : cnt.toInt ≤ (s0 + 2 : Nat) := by
                    rcases hs with ⟨_, h2, h3⟩ | ⟨_, h2, h3⟩
                    · rw [h2, h3]; omega
                    · rw [h2, h3]; omega
                  by_cases lt : 0 ≤ p2.toInt ∧ p2.toInt < cnt.toInt
                  · rw [if_pos lt] at e ⊢; omega
                  · rw [if_neg lt] at e; exact absurd rfl e
              have ePL : PL.toInt = PL.toInt.toNat := by omega
              have fin : ∀ (B N : Nat) (i4 : Int32) (k13 : Nat), i4.toInt = N → ((p1 = 0 ∧ B = 610 + 132 * PL.toInt.toNat ∧ N = 132 ∧ PL.toInt.toNat ≤ 1) ∨ (p1 ≠ 0 ∧ B = 874 + 272 * PL.toInt.toNat ∧ N = 272 ∧ PL.toInt.toNat ≤ 2)) → (cond b 610 874) + (cond b 132 272) * PL.toInt.toNat = B → cond b 132 272 = N → PS X k13 198 255 [.ref 147, .int p1, .int p2, .int PL, .int i4, .int 0] [] w12 r w' → FM ((147, 2) :: rl7) [148, 150, 151] w w' ∧ r = some (.int PL) ∧ ∀ q, al w' q = tlN b PL.toInt.toNat o.2.2.2.1 (al w) (if p2 = -1 then cnt + 1 else cnt) s0 q := by
                intro B N i4 k13 h4 hBN hcB hcN y
                obtain ⟨y1, y2, y3⟩ := L198_255 ePL hBN h4 k13 w12 0 0 f12.2.2.2 z32 (Nat.zero_le _) y
                refine ⟨FM_trans f11 (FM_trans (FM_mono f12 (by decide) (by decide)) (FM_mono y2 (by decide) (by decide))), y1, fun q => ?_⟩
                have er : ∀ j, rcl w12 j = o.2.2.2.1 j := fun j => by
                  have e1 : rcl w12 j = rcl w11 j := by unfold rcl; rw [FM_a f12 (by decide)]
                  have e2 : rcl w11 j = rcl w10 j := by unfold rcl; rw [FM_a c1 (by decide)]
                  rw [e1, e2]
                  exact oc.1 j
                have hB6 : 610 ≤ B := by omega
                rw [y3 q, er, al12, al11]
                unfold tlN
                rw [hcB, hcN, Nat.add_zero, cf, pm1]
                by_cases x2 : q = 2
                · rw [if_neg (by omega), if_neg (by omega), if_neg (by omega), if_neg (by omega), if_pos x2, if_pos x2]
                by_cases x3 : q = 3
                · rw [if_neg (by omega), if_neg (by omega), if_pos x3, if_neg x2, if_pos x3]
                by_cases x4 : q = 4
                · rw [if_neg (by omega), if_neg (by omega), if_neg (by omega), if_pos x4, if_neg x2, if_neg x3, if_pos x4]
                by_cases xs : q = s0
                · rw [if_neg (by omega), if_pos xs, if_neg x2, if_neg x3, if_neg x4, if_pos xs]
                rw [if_neg x2, if_neg x3, if_neg x4, if_neg xs, if_neg x2, if_neg x3, if_neg x4, if_neg xs]
              cases k12 with
              | zero => exact (PS_0 z).elim
              | succ k12 =>
                have z := U198_237 f12.2.2.2 z
                have res : FM ((147, 2) :: rl7) [148, 150, 151] w w' ∧ r = some (.int PL) ∧ ∀ q, al w' q = tlN b PL.toInt.toNat o.2.2.2.1 (al w) (if p2 = -1 then cnt + 1 else cnt) s0 q := by
                  rcases hs with ⟨h1, h2, h3⟩ | ⟨h1, h2, h3⟩
                  · rw [if_pos h1] at z
                    have hbt : b = true := by rw [hb, decide_eq_true h1]
                    exact fin _ 132 132 _ (by decide +kernel) (Or.inl ⟨h1, rfl, rfl, by omega⟩) (by rw [hbt]; rfl) (by rw [hbt]; rfl) z
                  · have h1' : p1 ≠ 0 := by rw [h1]; decide +kernel
                    rw [if_neg h1'] at z
                    have hbt : b = false := by rw [hb, decide_eq_false h1']
                    exact fin _ 272 272 _ (by decide +kernel) (Or.inr ⟨h1', rfl, rfl, by omega⟩) (by rw [hbt]; rfl) (by rw [hbt]; rfl) z
                exact ⟨res.1, Or.inr ⟨e, N, o, b3, Or.inr ⟨cf, res.2.1, s0, cnt, hs, res.2.2⟩⟩⟩
            · rw [if_neg cf] at z
              obtain ⟨z1, z2⟩ := z
              subst w'
              exact ⟨f11, Or.inr ⟨e, N, o, b3, Or.inl ⟨cf, z1, al11⟩⟩⟩
end GMM
end
section
/-! ===== villages, rows copied; what a text is kept as (the class) ===== -/
section GN
variable {X : pm_X} {k : Nat} {w0 w w1 w' : pm_W} {r : Option Value} {p p1 p2 p3 f0 p0 f q : Int32} {bs cs : Nat → Int32} {n i v j m a s T : Nat} {b : Bool} {c : Nat → Int32} {g : Int}
def sk_q (a : Nat) : List (Option Nat) := match sk0[a]? with
  | some (.inl (_, .inr (.inr q))) => q
  | _ => []
theorem SK_Q (hS : SK w) : gQ w a = sk_q a := by
  unfold gQ sk_q
  cases hw : w[a]? with
  | none =>
    have e : sk0[a]? = none := by rw [← show w.map sk_e = sk0 from hS, List.getElem?_map, hw]; rfl
    rw [e]
  | some q =>
    rw [SK_at hS hw]
    cases q with
    | inr q => rfl
    | inl q =>
      obtain ⟨t, q⟩ := q
      rcases q with q | q | q <;> rfl
/-- a village stands at v, its arrays behind it -/
def okV (v : Nat) : Bool := Nat.beq (sk_r v 3) (v + 1) && Nat.beq (sk_r v 4) (v + 2) && Nat.beq (sk_r v 5) (v + 3) && Nat.beq (sk_r v 6) (v + 4) && sk_i v 0 && sk_i v 1 && sk_i v 2 && sk_a (v + 1) && sk_a (v + 2) && sk_a (v + 3) && sk_a (v + 4) && Nat.beq (sk_l (v + 1)) 81 && Nat.beq (sk_l (v + 2)) 9 && Nat.beq (sk_l (v + 3)) 9 && Nat.beq (sk_l (v + 4)) 28
theorem okV_r (hS : SK w) (h : okV v = true) : gR w v 3 = v + 1 ∧ gR w v 4 = v + 2 ∧ gR w v 5 = v + 3 ∧ gR w v 6 = v + 4 ∧ isF w v 0 ∧ isF w v 1 ∧ isF w v 2 ∧ isA w (v + 1) ∧ isA w (v + 2) ∧ isA w (v + 3) ∧ isA w (v + 4) ∧ (gA w (v + 1)).length = 81 ∧ (gA w (v + 2)).length = 9 ∧ (gA w (v + 3)).length = 9 ∧ (gA w (v + 4)).length = 28 := by
  unfold okV at h
  simp only [Bool.and_eq_true] at h
  obtain ⟨⟨⟨⟨⟨⟨⟨⟨⟨⟨⟨⟨⟨⟨h1, h2⟩, h3⟩, h4⟩, h5⟩, h6⟩, h7⟩, h8⟩, h9⟩, h10⟩, h11⟩, h12⟩, h13⟩, h14⟩, h15⟩ := h
  exact ⟨sk_fix hS (Nat.eq_of_beq_eq_true h1) (by omega), sk_fix hS (Nat.eq_of_beq_eq_true h2) (by omega), sk_fix hS (Nat.eq_of_beq_eq_true h3) (by omega), sk_fix hS (Nat.eq_of_beq_eq_true h4) (by omega), SK_isF hS h5, SK_isF hS h6, SK_isF hS h7, SK_isA hS h8, SK_isA hS h9, SK_isA hS h10, SK_isA hS h11, SK_len hS (Nat.eq_of_beq_eq_true h12) (by decide), SK_len hS (Nat.eq_of_beq_eq_true h13) (by decide), SK_len hS (Nat.eq_of_beq_eq_true h14) (by decide), SK_len hS (Nat.eq_of_beq_eq_true h15) (by decide)⟩
theorem vcl_ok (hS : SK w) (h : okV v = true) (k : Nat) : vcl w v k = if k = 0 then gI w v 0 else if k = 1 then gI w v 2 else if k = 2 then gI w v 1 else if k < 84 then (gA w (v + 1)).getD (k - 3) 0 else if k < 93 then (gA w (v + 2)).getD (k - 84) 0 else if k < 102 then (gA w (v + 3)).getD (k - 93) 0 else if k < 130 then (gA w (v + 4)).getD (k - 102) 0 else 0 := by
  obtain ⟨h1, h2, h3, h4, _⟩ := okV_r hS h
  unfold vcl
  rw [h1, h2, h3, h4]
theorem cp_all {N : Nat} {x : Int32} (hc : cpI w a s 0 0 x) (hA : isA w s) (hx : x.toInt = N) (h1 : (gA w a).length = N) (h2 : (gA w s).length = N) (q : Nat) (hq : q < N) : (gA (cpS w a s 0 0 x) s).getD q 0 = (gA w a).getD q 0 := by
  rw [cpS_A hc hA, hx, z32, cpy_getF (by show 0 + N ≤ _; omega) (by show 0 + N ≤ _; omega), if_pos (by show 0 ≤ q ∧ q < 0 + N; omega)]
  show (gA w a).getD (0 + (q - 0)) 0 = _
  rw [show 0 + (q - 0) = q by omega]
theorem nadd {i j : Nat} (h : i ≠ j) : a + i ∉ [a + j] := by
  rw [List.mem_singleton]
  omega
theorem nsad {i j : Nat} (hd : a + 4 < s ∨ s + 4 < a) (hi : i ≤ 4) (hj : j ≤ 4) : s + i ∉ [a + j] := by
  rw [List.mem_singleton]
  omega
theorem vcl_eq (hS : SK w) (hS' : SK w') (ha : okV a = true) (hs : okV s = true) (g0 : gI w' a 0 = gI w s 0) (g1 : gI w' a 1 = gI w s 1) (g2 : gI w' a 2 = gI w s 2) (A1 : ∀ q, q < 81 → (gA w' (a + 1)).getD q 0 = (gA w (s + 1)).getD q 0) (A2 : ∀ q, q < 9 → (gA w' (a + 2)).getD q 0 = (gA w (s + 2)).getD q 0) (A3 : ∀ q, q < 9 → (gA w' (a + 3)).getD q 0 = (gA w (s + 3)).getD q 0) (A4 : ∀ q, q < 28 → (gA w' (a + 4)).getD q 0 = (gA w (s + 4)).getD q 0) (k : Nat) : vcl w' a k = vcl w s k := by
  rw [vcl_ok hS' ha, vcl_ok hS hs, g0, g1, g2]
  by_cases q0 : k = 0
  · rw [if_pos q0, if_pos q0]
  rw [if_neg q0, if_neg q0]
  by_cases q1 : k = 1
  · rw [if_pos q1, if_pos q1]
  rw [if_neg q1, if_neg q1]
  by_cases q2 : k = 2
  · rw [if_pos q2, if_pos q2]
  rw [if_neg q2, if_neg q2]
  by_cases q3 : k < 84
  · rw [if_pos q3, if_pos q3, A1 _ (by omega)]
  rw [if_neg q3, if_neg q3]
  by_cases q4 : k < 93
  · rw [if_pos q4, if_pos q4, A2 _ (by omega)]
  rw [if_neg q4, if_neg q4]
  by_cases q5 : k < 102
  · rw [if_pos q5, if_pos q5, A3 _ (by omega)]
  rw [if_neg q5, if_neg q5]
  by_cases q6 : k < 130
  · rw [if_pos q6, if_pos q6, A4 _ (by omega)]
  rw [if_neg q6, if_neg q6]
theorem F56 (hS : SK w) (ha : okV a = true) (hs : okV s = true) (hd : a + 4 < s ∨ s + 4 < a) (h : PS X k 56 0 [.ref a, .ref s] [] w r w') : r = none ∧ FM [(a, 0), (a, 1), (a, 2)] [a + 1, a + 2, a + 3, a + 4] w w' ∧ ∀ k, vcl w' a k = vcl w s k := by
  cases k with
  | zero => exact (PS_0 h).elim
  | succ k =>
    have e81 : (81 : Int32).toInt = (81 : Nat) := by decide +kernel
    have e9 : (9 : Int32).toInt = (9 : Nat) := by decide +kernel
    have e28 : (28 : Int32).toInt = (28 : Nat) := by decide +kernel
    have h := U56_0 hS h _ rfl _ rfl _ rfl
    obtain ⟨_, _, _, _, i0, i1, i2, _⟩ := okV_r hS ha
    have fa : FM [(a, 0), (a, 1), (a, 2)] [a + 1, a + 2, a + 3, a + 4] w (sI w a 0 (gI w s 0)) := FM_sI hS (by simp)
    have fb : FM [(a, 0), (a, 1), (a, 2)] [a + 1, a + 2, a + 3, a + 4] (sI w a 0 (gI w s 0)) (sI (sI w a 0 (gI w s 0)) a 1 (gI (sI w a 0 (gI w s 0)) s 1)) := FM_sI fa.2.2.2 (by simp)
    obtain ⟨w3, e3⟩ : ∃ w3, w3 = sI (sI (sI w a 0 (gI w s 0)) a 1 (gI (sI w a 0 (gI w s 0)) s 1)) a 2 (gI (sI (sI w a 0 (gI w s 0)) a 1 (gI (sI w a 0 (gI w s 0)) s 1)) s 2) := ⟨_, rfl⟩
    rw [← e3] at h
    have fc : FM [(a, 0), (a, 1), (a, 2)] [a + 1, a + 2, a + 3, a + 4] (sI (sI w a 0 (gI w s 0)) a 1 (gI (sI w a 0 (gI w s 0)) s 1)) w3 := by rw [e3]; exact FM_sI fb.2.2.2 (by simp)
    have sne : ∀ x y : Nat, ¬ (a = s ∧ x = y) := fun x y e => by omega
    have f3 := FM_trans fa (FM_trans fb fc)
    have S3 := f3.2.2.2
    have g0 : gI w3 a 0 = gI w s 0 := by
      rw [e3, gI_sI_ne (by omega), gI_sI_ne (by omega), gI_sI i0]
    have g1 : gI w3 a 1 = gI w s 1 := by
      rw [e3, gI_sI_ne (by omega), gI_sI (okV_r fa.2.2.2 ha).2.2.2.2.2.1, gI_sI_ne (sne _ _)]
    have g2 : gI w3 a 2 = gI w s 2 := by
      rw [e3, gI_sI (okV_r fb.2.2.2 ha).2.2.2.2.2.2.1, gI_sI_ne (sne _ _), gI_sI_ne (sne _ _)]
    have gs : ∀ x, gA w3 x = gA w x := fun x => by rw [e3, gA_sI, gA_sI, gA_sI]
    obtain ⟨ra1, ra2, ra3, ra4, _, _, _, ia1, ia2, ia3, ia4, la1, la2, la3, la4⟩ := okV_r S3 ha
    obtain ⟨rs1, rs2, rs3, rs4, _, _, _, _, _, _, _, ls1, ls2, ls3, ls4⟩ := okV_r S3 hs
    rw [ra1, rs1] at h
    obtain ⟨hc1, h⟩ := h
    have h := h _ rfl
    obtain ⟨w4, e4⟩ : ∃ w4, w4 = cpS w3 (s + 1) (a + 1) 0 0 81 := ⟨_, rfl⟩
    rw [← e4] at h
    have f4 : FM [] [a + 1] w3 w4 := by rw [e4]; exact FM_cpS hc1 S3 (by simp)
    have S4 := f4.2.2.2
    have c4 := cp_all hc1 ia1 e81 ls1 la1
    rw [← e4] at c4
    obtain ⟨_, ra2, _, _, _, _, _, ia1, ia2, ia3, ia4, la1, la2, la3, la4⟩ := okV_r S4 ha
    obtain ⟨_, rs2, _, _, _, _, _, _, _, _, _, ls1, ls2, ls3, ls4⟩ := okV_r S4 hs
    rw [ra2, rs2] at h
    obtain ⟨hc2, h⟩ := h
    have h := h _ rfl
    obtain ⟨w5, e5⟩ : ∃ w5, w5 = cpS w4 (s + 2) (a + 2) 0 0 9 := ⟨_, rfl⟩
    rw [← e5] at h
    have f5 : FM [] [a + 2] w4 w5 := by rw [e5]; exact FM_cpS hc2 S4 (by simp)
    have S5 := f5.2.2.2
    have c5 := cp_all hc2 ia2 e9 ls2 la2
    rw [← e5] at c5
    obtain ⟨_, _, ra3, _, _, _, _, ia1, ia2, ia3, ia4, la1, la2, la3, la4⟩ := okV_r S5 ha
    obtain ⟨_, _, rs3, _, _, _, _, _, _, _, _, ls1, ls2, ls3, ls4⟩ := okV_r S5 hs
    rw [ra3, rs3] at h
    obtain ⟨hc3, h⟩ := h
    have h := h _ rfl
    obtain ⟨w6, e6⟩ : ∃ w6, w6 = cpS w5 (s + 3) (a + 3) 0 0 9 := ⟨_, rfl⟩
    rw [← e6] at h
    have f6 : FM [] [a + 3] w5 w6 := by rw [e6]; exact FM_cpS hc3 S5 (by simp)
    have S6 := f6.2.2.2
    have c6 := cp_all hc3 ia3 e9 ls3 la3
    rw [← e6] at c6
    obtain ⟨_, _, _, ra4, _, _, _, ia1, ia2, ia3, ia4, la1, la2, la3, la4⟩ := okV_r S6 ha
    obtain ⟨_, _, _, rs4, _, _, _, _, _, _, _, ls1, ls2, ls3, ls4⟩ := okV_r S6 hs
    rw [ra4, rs4] at h
    obtain ⟨hc4, h⟩ := h
    obtain ⟨h1, h2⟩ := h _ rfl
    have f7 : FM [] [a + 4] w6 w' := by rw [h2]; exact FM_cpS hc4 S6 (by simp)
    have c7 := cp_all hc4 ia4 e28 ls4 la4
    rw [← h2] at c7
    have S7 := f7.2.2.2
    refine ⟨h1, FM_trans f3 (FM_trans (FM_mono f4 (by simp) (by simp)) (FM_trans (FM_mono f5 (by simp) (by simp)) (FM_trans (FM_mono f6 (by simp) (by simp)) (FM_mono f7 (by simp) (by simp))))), fun k => ?_⟩
    have nil : ∀ (x y : Nat), (x, y) ∉ ([] : List (Nat × Nat)) := fun x y z => by cases z
    have G : ∀ x, gI w' a x = gI w3 a x := fun x => by rw [FM_i f7 (nil _ _), FM_i f6 (nil _ _), FM_i f5 (nil _ _), FM_i f4 (nil _ _)]
    refine vcl_eq hS S7 ha hs (by rw [G, g0]) (by rw [G, g1]) (by rw [G, g2]) (fun q hq => ?_) (fun q hq => ?_) (fun q hq => ?_) (fun q hq => ?_) k
    · rw [FM_a f7 (nadd (by decide)), FM_a f6 (nadd (by decide)), FM_a f5 (nadd (by decide)), c4 _ hq, gs]
    · rw [FM_a f7 (nadd (by decide)), FM_a f6 (nadd (by decide)), c5 _ hq, FM_a f4 (nsad hd (by decide) (by decide)), gs]
    · rw [FM_a f7 (nadd (by decide)), c6 _ hq, FM_a f5 (nsad hd (by decide) (by decide)), FM_a f4 (nsad hd (by decide) (by decide)), gs]
    · rw [c7 _ hq, FM_a f6 (nsad hd (by decide) (by decide)), FM_a f5 (nsad hd (by decide) (by decide)), FM_a f4 (nsad hd (by decide) (by decide)), gs]
/-- a row stands at v -/
def okR (v : Nat) : Bool := Nat.beq (sk_r v 1) (v + 1) && sk_i v 0 && sk_a (v + 1) && Nat.beq (sk_l (v + 1)) 270
theorem okR_r (hS : SK w) (h : okR v = true) : gR w v 1 = v + 1 ∧ isF w v 0 ∧ isA w (v + 1) ∧ (gA w (v + 1)).length = 270 := by
  unfold okR at h
  simp only [Bool.and_eq_true] at h
  obtain ⟨⟨⟨h1, h2⟩, h3⟩, h4⟩ := h
  exact ⟨sk_fix hS (Nat.eq_of_beq_eq_true h1) (by omega), SK_isF hS h2, SK_isA hS h3, SK_len hS (Nat.eq_of_beq_eq_true h4) (by decide)⟩
theorem F57 (hS : SK w) (ha : okR a = true) (hs : okR s = true) (hd : a + 1 < s ∨ s + 1 < a) (h : PS X k 57 0 [.ref a, .ref s] [] w r w') : r = none ∧ FM [(a, 0)] [a + 1] w w' ∧ gI w' a 0 = gI w s 0 ∧ ∀ q, q < 270 → (gA w' (a + 1)).getD q 0 = (gA w (s + 1)).getD q 0 := by
  cases k with
  | zero => exact (PS_0 h).elim
  | succ k =>
    have e270 : (270 : Int32).toInt = (270 : Nat) := by decide +kernel
    have h := U57_0 hS h _ rfl
    obtain ⟨_, i0, _⟩ := okR_r hS ha
    obtain ⟨w1, e1⟩ : ∃ w1, w1 = sI w a 0 (gI w s 0) := ⟨_, rfl⟩
    rw [← e1] at h
    have f1 : FM [(a, 0)] [a + 1] w w1 := by rw [e1]; exact FM_sI hS (by simp)
    have S1 := f1.2.2.2
    have g0 : gI w1 a 0 = gI w s 0 := by rw [e1, gI_sI i0]
    have gs : ∀ x, gA w1 x = gA w x := fun x => by rw [e1, gA_sI]
    obtain ⟨ra, _, ia, la⟩ := okR_r S1 ha
    obtain ⟨rs, _, _, ls⟩ := okR_r S1 hs
    rw [ra, rs] at h
    obtain ⟨hc, h⟩ := h
    obtain ⟨h1, h2⟩ := h _ rfl
    have f2 : FM [] [a + 1] w1 w' := by rw [h2]; exact FM_cpS hc S1 (by simp)
    have c2 := cp_all hc ia e270 ls la
    rw [← h2] at c2
    refine ⟨h1, FM_trans f1 (FM_mono f2 (by simp) (by simp)), by rw [FM_i f2 (by intro z; cases z)]; exact g0, fun q hq => ?_⟩
    rw [c2 q hq, gs]
end GN
end
section
/-! ===== the class's text ===== -/
section GO
variable {X : pm_X} {k : Nat} {w0 w w1 w' : pm_W} {r : Option Value} {p p1 p2 p3 f0 p0 f q : Int32} {bs cs : Nat → Int32} {n i v j m a s T : Nat} {b : Bool} {c : Nat → Int32} {g : Int}
theorem F17_68 {i3 i4 : Int32} (hS : SK w) (h : PS X k 17 68 [.ref a, .int p1, .int p2, .int i3, .int i4] [] w r w') : r = some (.int (-1)) ∧ w' = w := by
  cases k with
  | zero => exact (PS_0 h).elim
  | succ k => exact U17_68 hS h
theorem F17 (hS : SK w) (h : PS X k 17 0 [.ref a, .int p1, .int p2, pm_dead, pm_dead] [] w r w') : r = some (.int (plcF p1 p2 (gI w a 2) (gI w a 3))) ∧ w' = w := by
  have one : ∀ (x cnt : Int32) (lim : Int32) (L : Int), lim.toInt = L → (if p2 = (-1) then (if lim ≤ cnt then (r = some (.int (-1)) ∧ w' = w) else (r = some (.int cnt) ∧ w' = w)) else (if p2 < 0 then (r = some (.int (-1)) ∧ w' = w) else (if cnt ≤ p2 then (r = some (.int (-1)) ∧ w' = w) else (r = some (.int p2) ∧ w' = w)))) → r = some (.int (if p2 = -1 then (if cnt.toInt < L then cnt else -1) else if 0 ≤ p2.toInt ∧ p2.toInt < cnt.toInt then p2 else -1)) ∧ w' = w := by
    intro x cnt lim L hL z
    by_cases e : p2 = -1
    · rw [if_pos e] at z ⊢
      by_cases c : lim ≤ cnt
      · rw [if_pos c] at z
        rw [Int32.le_iff_toInt_le, hL] at c
        rw [if_neg (by omega)]
        exact z
      · rw [if_neg c] at z
        rw [Int32.le_iff_toInt_le, hL] at c
        rw [if_pos (by omega)]
        exact z
    · rw [if_neg e] at z ⊢
      by_cases c : p2 < 0
      · rw [if_pos c] at z
        rw [Int32.lt_iff_toInt_lt, z32] at c
        rw [if_neg (by omega)]
        exact z
      · rw [if_neg c] at z
        rw [Int32.lt_iff_toInt_lt, z32] at c
        by_cases c2 : cnt ≤ p2
        · rw [if_pos c2] at z
          rw [Int32.le_iff_toInt_le] at c2
          rw [if_neg (by omega)]
          exact z
        · rw [if_neg c2] at z
          rw [Int32.le_iff_toInt_le] at c2
          rw [if_pos (by omega)]
          exact z
  cases k with
  | zero => exact (PS_0 h).elim
  | succ k =>
    have h := U17_0 hS h
    have l11 : PS X k 17 11 [.ref a, .int p1, .int p2, pm_dead, pm_dead] [] w r w' → (p1 = 0 ∨ p1 = 1) → r = some (.int (plcF p1 p2 (gI w a 2) (gI w a 3))) ∧ w' = w := by
      intro h hp
      cases k with
      | zero => exact (PS_0 h).elim
      | succ k =>
        have h := U17_11 hS h
        unfold plcF
        by_cases e0 : p1 = 0
        · rw [if_pos e0, if_pos e0] at h
          rw [if_pos e0]
          refine one 0 _ 2 2 two32 ?_
          by_cases e : p2 = -1
          · rw [if_pos e] at h ⊢
            exact h
          · rw [if_neg e] at h ⊢
            by_cases c : p2 < 0
            · rw [if_pos c] at h ⊢
              exact F17_68 hS h
            · rw [if_neg c] at h ⊢
              by_cases c2 : gI w a 2 ≤ p2
              · rw [if_pos c2] at h ⊢
                exact F17_68 hS h
              · rw [if_neg c2] at h ⊢
                exact h
        · have e1 : p1 = 1 := hp.resolve_left e0
          rw [if_neg e0, if_neg e0] at h
          rw [if_neg e0, if_pos e1]
          refine one 0 _ 3 3 three32 ?_
          by_cases e : p2 = -1
          · rw [if_pos e] at h ⊢
            exact h
          · rw [if_neg e] at h ⊢
            by_cases c : p2 < 0
            · rw [if_pos c] at h ⊢
              exact F17_68 hS h
            · rw [if_neg c] at h ⊢
              by_cases c2 : gI w a 3 ≤ p2
              · rw [if_pos c2] at h ⊢
                exact F17_68 hS h
              · rw [if_neg c2] at h ⊢
                exact h
    by_cases e0 : p1 = 0
    · rw [if_pos e0] at h
      exact l11 h (Or.inl e0)
    · rw [if_neg e0] at h
      by_cases e1 : p1 = 1
      · rw [if_pos e1] at h
        exact l11 h (Or.inr e1)
      · rw [if_neg e1] at h
        unfold plcF
        rw [if_neg e0, if_neg e1]
        exact h
theorem q2e (hS : SK w) : gR w 1 0 = 2 ∧ gR w 1 1 = 3 ∧ gQ w 2 = [some 5, some 10] ∧ gQ w 3 = [some 15, some 17, some 19] := ⟨sk_fix hS (by decide +kernel) (by decide), sk_fix hS (by decide +kernel) (by decide), by rw [SK_Q hS]; decide +kernel, by rw [SK_Q hS]; decide +kernel⟩
/-- what is kept: a village -/
theorem F55_v {κ : Nat} (hS : SK w) (h1 : p1 = 0) (h2 : p2.toInt = κ) (hκ : κ ≤ 1) (h : PS X k 55 0 [.ref 1, .int p1, .int p2, .ref 23] [] w r w') : r = none ∧ FM [(1, 2), (5 + 5 * κ, 0), (5 + 5 * κ, 1), (5 + 5 * κ, 2)] [6 + 5 * κ, 7 + 5 * κ, 8 + 5 * κ, 9 + 5 * κ] w w' ∧ (∀ k, vcl w' (5 + 5 * κ) k = vcl w 24 k) ∧ gI w' 1 2 = if (gI w 1 2).toInt < κ + 1 then p2 + 1 else gI w 1 2 := by
  cases k with
  | zero => exact (PS_0 h).elim
  | succ k =>
    have h := U55_0 hS h
    rw [if_pos h1] at h
    obtain ⟨_, r4, w5, q1, q2⟩ := h
    obtain ⟨e1, _, e3, _⟩ := q2e hS
    have eq : qG w (gR w 1 0) p2 = 5 + 5 * κ := by
      unfold qG
      rw [e1, e3, i_nat h2]
      have c : κ = 0 ∨ κ = 1 := by omega
      rcases c with rfl | rfl <;> rfl
    rw [eq] at q1
    have ok : okV (5 + 5 * κ) = true := by
      have c : κ = 0 ∨ κ = 1 := by omega
      rcases c with rfl | rfl <;> decide +kernel
    obtain ⟨a1, a2, a3⟩ := F56 hS ok (by decide +kernel) (by omega) q1
    have S5 := a2.2.2.2
    obtain ⟨h3, h4⟩ := q2 a1 S5 _ rfl
    have f2 : FM [(1, 2), (5 + 5 * κ, 0), (5 + 5 * κ, 1), (5 + 5 * κ, 2)] [6 + 5 * κ, 7 + 5 * κ, 8 + 5 * κ, 9 + 5 * κ] w5 w' := by rw [h4]; exact FM_sI S5 (by simp)
    have n1 : ((1, 2) : Nat × Nat) ∉ [(5 + 5 * κ, 0), (5 + 5 * κ, 1), (5 + 5 * κ, 2)] := by simp; omega
    refine ⟨h3, FM_trans (FM_mono a2 (by simp) (by intro x hx; simp only [List.mem_cons, List.not_mem_nil, or_false] at hx ⊢; omega)) f2, fun k => ?_, ?_⟩
    · rw [← a3 k, vcl_ok f2.2.2.2 ok, vcl_ok S5 ok]
      have G : ∀ x, gI w' (5 + 5 * κ) x = gI w5 (5 + 5 * κ) x := fun x => by rw [h4]; exact gI_sI_ne (by omega)
      have GA : ∀ x, gA w' x = gA w5 x := fun x => by rw [h4, gA_sI]
      rw [G, G, G, GA, GA, GA, GA]
    · have hp : (p2 + 1).toInt = κ + 1 := by rw [zi_add h2 o32 (by omega) (by omega)]
      rw [h4, gI_sI (SK_isF S5 (by decide +kernel)), FM_i a2 n1]
      by_cases c : gI w 1 2 < p2 + 1
      · rw [if_pos c]
        rw [Int32.lt_iff_toInt_lt, hp] at c
        rw [if_pos c]
      · rw [if_neg c]
        rw [Int32.lt_iff_toInt_lt, hp] at c
        rw [if_neg c]
/-- what is kept: a row -/
theorem F55_r {κ : Nat} (hS : SK w) (h1 : p1 ≠ 0) (h2 : p2.toInt = κ) (hκ : κ ≤ 2) (h : PS X k 55 0 [.ref 1, .int p1, .int p2, .ref 23] [] w r w') : r = none ∧ FM [(1, 3), (15 + 2 * κ, 0)] [16 + 2 * κ] w w' ∧ gI w' (15 + 2 * κ) 0 = gI w 29 0 ∧ (∀ q, q < 270 → (gA w' (16 + 2 * κ)).getD q 0 = (gA w 30).getD q 0) ∧ gI w' 1 3 = if (gI w 1 3).toInt < κ + 1 then p2 + 1 else gI w 1 3 := by
  cases k with
  | zero => exact (PS_0 h).elim
  | succ k =>
    have h := U55_0 hS h
    rw [if_neg h1] at h
    obtain ⟨_, r4, w5, q1, q2⟩ := h
    obtain ⟨_, e2, _, e4⟩ := q2e hS
    have eq : qG w (gR w 1 1) p2 = 15 + 2 * κ := by
      unfold qG
      rw [e2, e4, i_nat h2]
      have c : κ = 0 ∨ κ = 1 ∨ κ = 2 := by omega
      rcases c with rfl | rfl | rfl <;> rfl
    rw [eq] at q1
    have ok : okR (15 + 2 * κ) = true := by
      have c : κ = 0 ∨ κ = 1 ∨ κ = 2 := by omega
      rcases c with rfl | rfl | rfl <;> decide +kernel
    obtain ⟨a1, a2, a3, a4⟩ := F57 hS ok (by decide +kernel) (by omega) q1
    have S5 := a2.2.2.2
    obtain ⟨h3, h4⟩ := q2 a1 S5 _ rfl
    have f2 : FM [(1, 3), (15 + 2 * κ, 0)] [16 + 2 * κ] w5 w' := by rw [h4]; exact FM_sI S5 (by simp)
    have n1 : ((1, 3) : Nat × Nat) ∉ [(15 + 2 * κ, 0)] := by simp
    refine ⟨h3, FM_trans (FM_mono a2 (by simp) (by intro x hx; simp only [List.mem_cons, List.not_mem_nil, or_false] at hx ⊢; omega)) f2, ?_, fun q hq => ?_, ?_⟩
    · rw [h4, gI_sI_ne (by omega)]
      exact a3
    · rw [h4, gA_sI, show 16 + 2 * κ = 15 + 2 * κ + 1 by omega]
      exact a4 q hq
    · have hp : (p2 + 1).toInt = κ + 1 := by rw [zi_add h2 o32 (by omega) (by omega)]
      rw [h4, gI_sI (SK_isF S5 (by decide +kernel)), FM_i a2 n1]
      by_cases c : gI w 1 3 < p2 + 1
      · rw [if_pos c]
        rw [Int32.lt_iff_toInt_lt, hp] at c
        rw [if_pos c]
      · rw [if_neg c]
        rw [Int32.lt_iff_toInt_lt, hp] at c
        rw [if_neg c]
/-- fields and arrays that text writes, what is told apart -/
def fl16 : List (Nat × Nat) := [(1, 5), (1, 6), (1, 7), (23, 3), (23, 4), (23, 5), (23, 6), (23, 7), (23, 8), (23, 9), (23, 10), (23, 11), (24, 0), (24, 1), (24, 2), (29, 0)]
theorem plc_b (hp : plcF p1 p2 p f ≠ -1) (h0 : 0 ≤ p.toInt) (h1 : 0 ≤ f.toInt) (h2 : p.toInt ≤ 2) (h3 : f.toInt ≤ 3) : (p1 = 0 ∧ 0 ≤ (plcF p1 p2 p f).toInt ∧ (plcF p1 p2 p f).toInt ≤ 1) ∨ (p1 = 1 ∧ 0 ≤ (plcF p1 p2 p f).toInt ∧ (plcF p1 p2 p f).toInt ≤ 2) := by
  unfold plcF at hp ⊢
  by_cases e0 : p1 = 0
  · rw [if_pos e0] at hp ⊢
    refine Or.inl ⟨e0, ?_⟩
    by_cases e : p2 = -1
    · rw [if_pos e] at hp ⊢
      by_cases c : p.toInt < 2
      · rw [if_pos c]; omega
      · rw [if_neg c] at hp; exact absurd rfl hp
    · rw [if_neg e] at hp ⊢
      by_cases c : 0 ≤ p2.toInt ∧ p2.toInt < p.toInt
      · rw [if_pos c]; omega
      · rw [if_neg c] at hp; exact absurd rfl hp
  · rw [if_neg e0] at hp ⊢
    by_cases e1 : p1 = 1
    · rw [if_pos e1] at hp ⊢
      refine Or.inr ⟨e1, ?_⟩
      by_cases e : p2 = -1
      · rw [if_pos e] at hp ⊢
        by_cases c : f.toInt < 3
        · rw [if_pos c]; omega
        · rw [if_neg c] at hp; exact absurd rfl hp
      · rw [if_neg e] at hp ⊢
        by_cases c : 0 ≤ p2.toInt ∧ p2.toInt < f.toInt
        · rw [if_pos c]; omega
        · rw [if_neg c] at hp; exact absurd rfl hp
    · rw [if_neg e1] at hp
      exact absurd rfl hp
theorem RD_NC : ∀ (N : Nat) {i : Nat} {f p : Int32} {c : Nat → Int32} {g : Int} {o : OC}, RDq b bs n N i f p c g o → (f = 0 → NC b c) → o.2.1 = 0 → NC b o.2.2.2.1
  | 0, _, _, _, _, _, _, q, _, _ => q.elim
  | N + 1, i, f, p, c, g, o, q, hp, ho => by
    rcases q with ⟨h1, e⟩ | ⟨h1, h2, e⟩ | ⟨v, m, h1, h2, e⟩ | ⟨v, m, h1, h2, h3⟩
    · rw [e] at ho ⊢
      exact hp ho
    · rw [e] at ho
      exact absurd (show (1 : Int32) = 0 from ho) (by decide +kernel)
    · rw [e] at ho
      exact absurd (show (1 : Int32) = 0 from ho) (by decide +kernel)
    · refine RD_NC N h3 (fun hz => ?_) ho
      unfold cD
      rw [if_pos hz]
      exact NC_step (hp (fD_0 hz).1) h1 (fD_0 hz).2
theorem NC_0 : NC b (i0 b) := by
  unfold NC
  cases b with
  | true => rw [if_pos rfl]; decide +kernel
  | false => rw [if_neg Bool.false_ne_true]; decide +kernel
theorem F16 (hX : XO X) (hS : SK w) (h0 : 0 ≤ (gI w 1 2).toInt) (h02 : (gI w 1 2).toInt ≤ 2) (h1 : 0 ≤ (gI w 1 3).toInt) (h13 : (gI w 1 3).toInt ≤ 3) (hn : (gI w 1 5).toInt = n) (h6 : n ≤ 600) (hb : b = decide (p1 = 0)) (h : PS X k 16 0 [.ref 0, .int p1, .int p2, pm_dead, pm_dead] [] w r w') : (plcF p1 p2 (gI w 1 2) (gI w 1 3) = -1 ∧ r = some (.int (-2)) ∧ FM fl16 alR w w' ∧ gI w' 1 5 = 0 ∧ gI w' 1 6 = 0 ∧ gI w' 1 7 = -1) ∨ (plcF p1 p2 (gI w 1 2) (gI w 1 3) ≠ -1 ∧ ∃ (N : Nat) (o : OC), RDq b (tb w) n N 0 0 (-1) (i0 b) (-1) o ∧ ((fF b o ≠ 0 ∧ r = some (.int (-1)) ∧ FM fl16 alR w w' ∧ gI w' 1 5 = 0 ∧ gI w' 1 6 = fF b o ∧ gI w' 1 7 = pF b n o) ∨ (fF b o = 0 ∧ r = some (.int (plcF p1 p2 (gI w 1 2) (gI w 1 3))) ∧ gI w' 1 5 = 0 ∧ gI w' 1 6 = 0 ∧ gI w' 1 7 = -1 ∧ ∃ κ : Nat, (plcF p1 p2 (gI w 1 2) (gI w 1 3)).toInt = κ ∧ ((p1 = 0 ∧ κ ≤ 1 ∧ FM ([(1, 2), (5 + 5 * κ, 0), (5 + 5 * κ, 1), (5 + 5 * κ, 2)] ++ fl16) ([6 + 5 * κ, 7 + 5 * κ, 8 + 5 * κ, 9 + 5 * κ] ++ alR) w w' ∧ (∀ k, vcl w' (5 + 5 * κ) k = o.2.2.2.1 k) ∧ gI w' 1 2 = if (gI w 1 2).toInt < κ + 1 then plcF p1 p2 (gI w 1 2) (gI w 1 3) + 1 else gI w 1 2) ∨ (p1 = 1 ∧ κ ≤ 2 ∧ FM ([(1, 3), (15 + 2 * κ, 0)] ++ fl16) ([16 + 2 * κ] ++ alR) w w' ∧ gI w' (15 + 2 * κ) 0 = o.2.2.2.1 0 ∧ (o.2.2.2.1 0).toInt ≤ 30 ∧ 0 ≤ (o.2.2.2.1 0).toInt ∧ (∀ q, q < 9 * (o.2.2.2.1 0).toInt.toNat → (gA w' (16 + 2 * κ)).getD q 0 = o.2.2.2.1 (1 + q)) ∧ gI w' 1 3 = if (gI w 1 3).toInt < κ + 1 then plcF p1 p2 (gI w 1 2) (gI w 1 3) + 1 else gI w 1 3))))) := by
  cases k with
  | zero => exact (PS_0 h).elim
  | succ k =>
    have h := U16_0 hS h _ rfl _ rfl _ rfl
    obtain ⟨w3, e3⟩ : ∃ w3, w3 = sI (sI (sI w 1 5 0) 1 6 0) 1 7 (-1) := ⟨_, rfl⟩
    rw [← e3] at h
    have s1 : FM [(1, 5), (1, 6), (1, 7)] [] w (sI w 1 5 0) := FM_sI hS (by decide)
    have s2 : FM [(1, 5), (1, 6), (1, 7)] [] (sI w 1 5 0) (sI (sI w 1 5 0) 1 6 0) := FM_sI s1.2.2.2 (by decide)
    have s3 : FM [(1, 5), (1, 6), (1, 7)] [] (sI (sI w 1 5 0) 1 6 0) w3 := by rw [e3]; exact FM_sI s2.2.2.2 (by decide)
    have f3 := FM_trans s1 (FM_trans s2 s3)
    have S3 := f3.2.2.2
    have g5 : gI w3 1 5 = 0 := by rw [e3, gI_sI_ne (by decide), gI_sI_ne (by decide), gI_sI (SK_isF hS (by decide +kernel))]
    have g6 : gI w3 1 6 = 0 := by rw [e3, gI_sI_ne (by decide), gI_sI (SK_isF s1.2.2.2 (by decide +kernel))]
    have g7 : gI w3 1 7 = -1 := by rw [e3, gI_sI (SK_isF s2.2.2.2 (by decide +kernel))]
    have f3' : FM fl16 alR w w3 := FM_mono f3 (by decide) (by intro x hx; cases hx)
    have h := use_p S3 h (fun _ _ z => F17 S3 z)
    rw [FM_i f3 (by decide), FM_i f3 (by decide)] at h
    obtain ⟨PL, hPL⟩ : ∃ PL, PL = plcF p1 p2 (gI w 1 2) (gI w 1 3) := ⟨_, rfl⟩
    rw [← hPL] at h ⊢
    by_cases c1 : PL = -1
    · rw [if_pos c1] at h
      obtain ⟨h2, h3⟩ := h
      subst w'
      exact Or.inl ⟨c1, h2, f3', g5, g6, g7⟩
    · rw [if_neg c1] at h
      refine Or.inr ⟨c1, ?_⟩
      have hPb := plc_b (by rw [← hPL]; exact c1) h0 h1 h02 h13
      rw [← hPL] at hPb
      obtain ⟨r7, w8, q1, h⟩ := h
      obtain ⟨a1, a2, N, o, a3, a4, a5, a6⟩ := F18 hX S3 hb hn h6 q1
      have S8 := a2.2.2.2
      have h := h a1 S8
      have tbe : tb w3 = tb w := by
        funext j
        unfold tb
        rw [FM_a f3 (by intro z; cases z)]
      rw [tbe] at a3
      refine ⟨N, o, a3, ?_⟩
      have f8 : FM fl16 alR w w8 := FM_trans f3' (FM_mono a2 (by decide) (by decide))
      rw [a4] at h
      by_cases cf : fF b o = 0
      · rw [if_pos cf] at h
        obtain ⟨r9, w10, q2, q3⟩ := h
        have hCC := a6 cf
        have k5 : gI w8 1 5 = 0 := by rw [FM_i a2 (by decide)]; exact g5
        have k6 : gI w8 1 6 = 0 := by rw [FM_i a2 (by decide)]; exact g6
        have k7 : gI w8 1 7 = -1 := by rw [FM_i a2 (by decide)]; exact g7
        have k2 : gI w8 1 2 = gI w 1 2 := FM_i f8 (by decide)
        have k3 : gI w8 1 3 = gI w 1 3 := FM_i f8 (by decide)
        rcases hPb with ⟨e0, b1, b2⟩ | ⟨e1, b1, b2⟩
        · have hbt : b = true := by rw [hb, decide_eq_true e0]
          rw [hbt, CC_t] at hCC
          obtain ⟨c2, c3, c4, c5⟩ := F55_v (κ := PL.toInt.toNat) S8 e0 (by omega) (by omega) q2
          obtain ⟨d1, d2⟩ := q3 c2 c3.2.2.2
          subst w'
          have nn : ∀ x, x = 5 ∨ x = 6 ∨ x = 7 → ((1, x) : Nat × Nat) ∉ [(1, 2), (5 + 5 * PL.toInt.toNat, 0), (5 + 5 * PL.toInt.toNat, 1), (5 + 5 * PL.toInt.toNat, 2)] := by
            intro x hx
            simp
            omega
          refine Or.inr ⟨cf, d1, by rw [FM_i c3 (nn 5 (by decide))]; exact k5, by rw [FM_i c3 (nn 6 (by decide))]; exact k6, by rw [FM_i c3 (nn 7 (by decide))]; exact k7, PL.toInt.toNat, by omega, Or.inl ⟨e0, by omega, FM_trans (FM_mono f8 (fun p hp => List.mem_append_right _ hp) (fun p hp => List.mem_append_right _ hp)) (FM_mono c3 (fun p hp => List.mem_append_left _ hp) (fun p hp => List.mem_append_left _ hp)), fun k => (c4 k).trans (hCC.1 k), by rw [c5, k2]⟩⟩
        · have e0 : p1 ≠ 0 := by rw [e1]; decide +kernel
          have hbt : b = false := by rw [hb, decide_eq_false e0]
          rw [hbt, CC_f] at hCC
          obtain ⟨c2, c3, c4, c5, c6⟩ := F55_r (κ := PL.toInt.toNat) S8 e0 (by omega) (by omega) q2
          obtain ⟨d1, d2⟩ := q3 c2 c3.2.2.2
          subst w'
          have nn : ∀ x, x = 5 ∨ x = 6 ∨ x = 7 → ((1, x) : Nat × Nat) ∉ [(1, 3), (15 + 2 * PL.toInt.toNat, 0)] := by
            intro x hx
            simp
            omega
          have hac : (o.2.2.2.1 0).toInt ≤ 30 ∧ 0 ≤ (o.2.2.2.1 0).toInt := by
            have q := RD_NC N a3 (fun _ => NC_0) (fF_0 (n := n) cf).1
            rw [hbt] at q
            unfold NC at q
            rw [if_neg Bool.false_ne_true] at q
            exact ⟨q.2, q.1⟩
          refine Or.inr ⟨cf, d1, by rw [FM_i c3 (nn 5 (by decide))]; exact k5, by rw [FM_i c3 (nn 6 (by decide))]; exact k6, by rw [FM_i c3 (nn 7 (by decide))]; exact k7, PL.toInt.toNat, by omega, Or.inr ⟨e1, by omega, FM_trans (FM_mono f8 (fun p hp => List.mem_append_right _ hp) (fun p hp => List.mem_append_right _ hp)) (FM_mono c3 (fun p hp => List.mem_append_left _ hp) (fun p hp => List.mem_append_left _ hp)), c4.trans hCC.1, hac.1, hac.2, fun q hq => (c5 q (by omega)).trans (hCC.2 q hq), by rw [c6, k3]⟩⟩
      · rw [if_neg cf] at h
        have h := h _ rfl _ rfl
        obtain ⟨d1, d2⟩ := h
        have fa : FM fl16 alR w8 (sI w8 1 6 (fF b o)) := FM_sI S8 (by decide)
        have fb : FM fl16 alR (sI w8 1 6 (fF b o)) w' := by rw [d2]; exact FM_sI fa.2.2.2 (by decide)
        refine Or.inl ⟨cf, d1, FM_trans f8 (FM_trans fa fb), ?_, ?_, ?_⟩
        · rw [d2, gI_sI_ne (by decide), gI_sI_ne (by decide), FM_i a2 (by decide)]; exact g5
        · rw [d2, gI_sI_ne (by decide), gI_sI (SK_isF S8 (by decide +kernel))]
        · rw [d2, gI_sI (SK_isF fa.2.2.2 (by decide +kernel)), gI_sI_ne (by decide)]; exact a5
end GO
end
section
/-! ===== what is told, on both sides; text keeps it, and answers alike ===== -/
section GP
variable {X : pm_X} {k k2 : Nat} {w0 w w1 w2 w' : pm_W} {r r2 : Option Value} {p p1 p2 p3 f0 p0 f q : Int32} {bs cs : Nat → Int32} {n i v j m a s T : Nat} {b : Bool} {c : Nat → Int32} {g : Int}
def BY (x y : Int32) : Prop := -128 ≤ x.toInt ∧ x.toInt ≤ 127 ∧ y.toInt = if x.toInt < 0 then x.toInt + 256 else x.toInt
theorem BY_BE {x y : Int32} (h : BY x y) : y = x ∨ (isBl x = false ∧ isLt x = false ∧ isDg x = false ∧ x ≠ 59 ∧ isBl y = false ∧ isLt y = false ∧ isDg y = false ∧ y ≠ 59) := by
  obtain ⟨h1, h2, h3⟩ := h
  have e10 : (10 : Int32).toInt = 10 := ten32
  have e32 : (32 : Int32).toInt = 32 := by decide +kernel
  have e59 : (59 : Int32).toInt = 59 := by decide +kernel
  have out : ∀ z : Int32, (z.toInt < 0 ∨ 128 ≤ z.toInt) → isBl z = false ∧ isLt z = false ∧ isDg z = false ∧ z ≠ 59 := by
    intro z hz
    unfold isBl isLt isDg
    rw [decide_eq_false (fun e : z = 10 => by rw [e, e10] at hz; omega), decide_eq_false (fun e : z = 32 => by rw [e, e32] at hz; omega)]
    refine ⟨rfl, ?_, ?_, fun e => by rw [e, e59] at hz; omega⟩
    · rcases hz with hz | hz
      · rw [decide_eq_false (by omega)]; rfl
      · rw [decide_eq_false (by omega : ¬ z.toInt ≤ 122), Bool.and_false]
    · rcases hz with hz | hz
      · rw [decide_eq_false (by omega)]; rfl
      · rw [decide_eq_false (by omega : ¬ z.toInt ≤ 57), Bool.and_false]
  by_cases c : x.toInt < 0
  · rw [if_pos c] at h3
    obtain ⟨a1, a2, a3, a4⟩ := out x (Or.inl c)
    obtain ⟨b1, b2, b3, b4⟩ := out y (Or.inr (by omega))
    exact Or.inr ⟨a1, a2, a3, a4, b1, b2, b3, b4⟩
  · rw [if_neg c] at h3
    exact Or.inl (Int32.toInt_inj.mp h3)
/-- the ranges of what is told -/
def RA (a : Nat → Int32) : Prop := 0 ≤ (a 0).toInt ∧ (a 0).toInt ≤ 2 ∧ 0 ≤ (a 1).toInt ∧ (a 1).toInt ≤ 3 ∧ 0 ≤ (a 2).toInt ∧ (a 2).toInt ≤ 600 ∧ ∀ u, u < (a 1).toInt.toNat → 0 ≤ (a (874 + 272 * u)).toInt ∧ (a (874 + 272 * u)).toInt ≤ 30
/-- the class's told object at T has the cells a -/
def TE (w : pm_W) (T : Nat) (a : Nat → Int32) : Prop := RA a ∧ gI w T 2 = a 0 ∧ gI w T 3 = a 1 ∧ gI w T 5 = a 2 ∧ gI w T 6 = a 3 ∧ gI w T 7 = a 4 ∧ (∀ j, j < (a 2).toInt.toNat → BY ((gA w (T + 3)).getD j 0) (a (10 + j))) ∧ (∀ u, u < (a 0).toInt.toNat → ∀ k, k < 130 → vcl w (T + 4 + 5 * u) k = a (610 + 132 * u + k)) ∧ (∀ u, u < (a 1).toInt.toNat → gI w (T + 14 + 2 * u) 0 = a (874 + 272 * u) ∧ ∀ q, q < 9 * (a (874 + 272 * u)).toInt.toNat → (gA w (T + 15 + 2 * u)).getD q 0 = a (874 + 272 * u + 1 + q))
theorem TE_BE (h : TE w 1 (al w)) (hn : n = (al w 2).toInt.toNat) : BEq (tb w) (rb w) n := by
  intro j hj
  exact BY_BE (h.2.2.2.2.2.2.1 j (by omega))
theorem vcl_FMv {fs : List (Nat × Nat)} {as : List Nat} (hS : SK w) (fm : FM fs as w w1) (ok : okV v = true) (h0 : (v, 0) ∉ fs) (h1 : (v, 1) ∉ fs) (h2 : (v, 2) ∉ fs) (a1 : v + 1 ∉ as) (a2 : v + 2 ∉ as) (a3 : v + 3 ∉ as) (a4 : v + 4 ∉ as) (k : Nat) : vcl w1 v k = vcl w v k := by
  rw [vcl_ok hS ok, vcl_ok fm.2.2.2 ok, FM_i fm h0, FM_i fm h1, FM_i fm h2, FM_a fm a1, FM_a fm a2, FM_a fm a3, FM_a fm a4]
def fl198 : List (Nat × Nat) := [(147, 2), (147, 3), (147, 4), (147, 5), (147, 6), (147, 7), (147, 8), (147, 9)]
/-- text, where nothing is kept but tape and fault -/
theorem TE_n {as : List Nat} (hS : SK w) (hTE : TE w 1 (al w)) (fm : FM (fl16 ++ fl198) as w w2) (ha : ∀ x, x ∈ [6, 7, 8, 9, 11, 12, 13, 14, 16, 18, 20] → x ∉ as) (g5 : gI w2 1 5 = 0) (g6 : gI w2 1 6 = f) (g7 : gI w2 1 7 = p) (hal : ∀ q, al w2 q = if q = 3 then f else if q = 4 then p else if q = 2 then 0 else al w q) : TE w2 1 (al w2) := by
  obtain ⟨⟨r1, r2, r3, r4, r5, r6, r7⟩, t1, t2, t3, t4, t5, t6, t7, t8⟩ := hTE
  have lo : ∀ q, q ≠ 2 → q ≠ 3 → q ≠ 4 → al w2 q = al w q := fun q h2 h3 h4 => by rw [hal, if_neg h3, if_neg h4, if_neg h2]
  have e2 : al w2 2 = 0 := by rw [hal]; rfl
  have e3 : al w2 3 = f := by rw [hal]; rfl
  have e4 : al w2 4 = p := by rw [hal]; rfl
  refine ⟨⟨?_, ?_, ?_, ?_, ?_, ?_, ?_⟩, ?_, ?_, ?_, ?_, ?_, ?_, ?_, ?_⟩
  · rw [lo 0 (by decide) (by decide) (by decide)]; exact r1
  · rw [lo 0 (by decide) (by decide) (by decide)]; exact r2
  · rw [lo 1 (by decide) (by decide) (by decide)]; exact r3
  · rw [lo 1 (by decide) (by decide) (by decide)]; exact r4
  · rw [e2]; decide
  · rw [e2]; decide
  · intro u hu
    rw [lo 1 (by decide) (by decide) (by decide)] at hu
    rw [lo _ (by omega) (by omega) (by omega)]
    exact r7 u hu
  · rw [FM_i fm (by decide), lo 0 (by decide) (by decide) (by decide)]; exact t1
  · rw [FM_i fm (by decide), lo 1 (by decide) (by decide) (by decide)]; exact t2
  · rw [e2]; exact g5
  · rw [e3]; exact g6
  · rw [e4]; exact g7
  · intro j hj
    rw [e2] at hj
    exact absurd hj (by show ¬ j < 0; omega)
  · intro u hu k hk
    rw [lo 0 (by decide) (by decide) (by decide)] at hu
    rw [lo _ (by omega) (by omega) (by omega), ← t7 u hu k hk]
    have c : u = 0 ∨ u = 1 := by omega
    rcases c with rfl | rfl
    · exact vcl_FMv hS fm (by decide +kernel) (by decide) (by decide) (by decide) (ha _ (by decide)) (ha _ (by decide)) (ha _ (by decide)) (ha _ (by decide)) k
    · exact vcl_FMv hS fm (by decide +kernel) (by decide) (by decide) (by decide) (ha _ (by decide)) (ha _ (by decide)) (ha _ (by decide)) (ha _ (by decide)) k
  · intro u hu
    rw [lo 1 (by decide) (by decide) (by decide)] at hu
    rw [lo _ (by omega) (by omega) (by omega)]
    obtain ⟨y1, y2⟩ := t8 u hu
    have c : u = 0 ∨ u = 1 ∨ u = 2 := by omega
    refine ⟨?_, fun q hq => ?_⟩
    · rw [← y1]
      rcases c with rfl | rfl | rfl <;> exact FM_i fm (by decide)
    · rw [lo _ (by omega) (by omega) (by omega), ← y2 q hq]
      rcases c with rfl | rfl | rfl <;> rw [FM_a fm (ha _ (by decide))]
theorem Int32_cnt {x y : Int32} {κ : Nat} (hy : y.toInt = κ) (h0 : 0 ≤ x.toInt) (h : (p2 = -1 ∧ y = x) ∨ (p2 ≠ -1 ∧ y = p2 ∧ y.toInt < x.toInt)) : (if x.toInt < κ + 1 then y + 1 else x) = if p2 = -1 then x + 1 else x := by
  rcases h with ⟨h1, h2⟩ | ⟨h1, h2, h3⟩
  · rw [if_pos h1, if_pos (by rw [← h2, hy]; omega), h2]
  · rw [if_neg h1, if_neg (by omega)]
theorem plc_c {s0 : Nat} {cnt vc rc : Int32} (hs : (p1 = 0 ∧ cnt = vc ∧ s0 = 0) ∨ (p1 = 1 ∧ cnt = rc ∧ s0 = 1)) (hp : plcF p1 p2 vc rc ≠ -1) : (p2 = -1 ∧ plcF p1 p2 vc rc = cnt) ∨ (p2 ≠ -1 ∧ plcF p1 p2 vc rc = p2 ∧ (plcF p1 p2 vc rc).toInt < cnt.toInt) := by
  rw [plc_eq hs] at hp ⊢
  by_cases e : p2 = -1
  · rw [if_pos e] at hp ⊢
    by_cases c : cnt.toInt < (s0 + 2 : Nat)
    · rw [if_pos c]; exact Or.inl ⟨e, rfl⟩
    · rw [if_neg c] at hp; exact absurd rfl hp
  · rw [if_neg e] at hp ⊢
    by_cases c : 0 ≤ p2.toInt ∧ p2.toInt < cnt.toInt
    · rw [if_pos c]; exact Or.inr ⟨e, rfl, c.2⟩
    · rw [if_neg c] at hp; exact absurd rfl hp
/-- a village is kept -/
theorem TE_v {κ : Nat} {C : Nat → Int32} {cnt : Int32} (hS : SK w) (hTE : TE w 1 (al w)) (hκ : κ ≤ 1) (fm : FM ([(1, 2), (5 + 5 * κ, 0), (5 + 5 * κ, 1), (5 + 5 * κ, 2)] ++ fl16 ++ fl198) ([6 + 5 * κ, 7 + 5 * κ, 8 + 5 * κ, 9 + 5 * κ] ++ alR ++ [148, 150, 151]) w w2) (hC : ∀ k, vcl w2 (5 + 5 * κ) k = C k) (g2 : gI w2 1 2 = cnt) (hc2 : cnt.toInt = max (al w 0).toInt (κ + 1)) (hk : κ ≤ (al w 0).toInt.toNat) (g5 : gI w2 1 5 = 0) (g6 : gI w2 1 6 = 0) (g7 : gI w2 1 7 = -1) (hal : ∀ q, al w2 q = tlN true κ C (al w) cnt 0 q) : TE w2 1 (al w2) := by
  obtain ⟨⟨r1, r2, r3, r4, r5, r6, r7⟩, t1, t2, t3, t4, t5, t6, t7, t8⟩ := hTE
  have hal : ∀ q, al w2 q = if q = 2 then 0 else if q = 3 then 0 else if q = 4 then -1 else if q = 0 then cnt else if 610 + 132 * κ ≤ q ∧ q < 610 + 132 * κ + 132 then C (q - (610 + 132 * κ)) else al w q := hal
  have lo : ∀ q, q ≠ 2 → q ≠ 3 → q ≠ 4 → q ≠ 0 → ¬ (610 + 132 * κ ≤ q ∧ q < 610 + 132 * κ + 132) → al w2 q = al w q := fun q h2 h3 h4 h0 hx => by rw [hal, if_neg h2, if_neg h3, if_neg h4, if_neg h0, if_neg hx]
  have e0 : al w2 0 = cnt := by rw [hal]; rfl
  have e1 : al w2 1 = al w 1 := lo 1 (by decide) (by decide) (by decide) (by decide) (by omega)
  have e2 : al w2 2 = 0 := by rw [hal]; rfl
  have e3 : al w2 3 = 0 := by rw [hal]; rfl
  have e4 : al w2 4 = -1 := by rw [hal]; rfl
  have kc : κ = 0 ∨ κ = 1 := by omega
  refine ⟨⟨?_, ?_, ?_, ?_, ?_, ?_, ?_⟩, ?_, ?_, ?_, ?_, ?_, ?_, ?_, ?_⟩
  · rw [e0]; omega
  · rw [e0]; omega
  · rw [e1]; exact r3
  · rw [e1]; exact r4
  · rw [e2]; decide
  · rw [e2]; decide
  · intro u hu
    rw [e1] at hu
    rw [lo _ (by omega) (by omega) (by omega) (by omega) (by omega)]
    exact r7 u hu
  · rw [e0]; exact g2
  · rw [e1, ← t2]; rcases kc with rfl | rfl <;> exact FM_i fm (by decide)
  · rw [e2]; exact g5
  · rw [e3]; exact g6
  · rw [e4]; exact g7
  · intro j hj
    rw [e2] at hj
    exact absurd hj (by show ¬ j < 0; omega)
  · intro u hu k hk'
    rw [e0] at hu
    by_cases e : u = κ
    · rw [e, show 1 + 4 + 5 * κ = 5 + 5 * κ by omega, hC, hal, if_neg (by omega), if_neg (by omega), if_neg (by omega), if_neg (by omega), if_pos (by omega), show 610 + 132 * κ + k - (610 + 132 * κ) = k by omega]
    · rw [lo _ (by omega) (by omega) (by omega) (by omega) (by omega), ← t7 u (by omega) k hk']
      have c : (u = 0 ∧ κ = 1) ∨ (u = 1 ∧ κ = 0) := by omega
      rcases c with ⟨rfl, rfl⟩ | ⟨rfl, rfl⟩
      · exact vcl_FMv hS fm (by decide +kernel) (by decide) (by decide) (by decide) (by decide) (by decide) (by decide) (by decide) k
      · exact vcl_FMv hS fm (by decide +kernel) (by decide) (by decide) (by decide) (by decide) (by decide) (by decide) (by decide) k
  · intro u hu
    rw [e1] at hu
    rw [lo _ (by omega) (by omega) (by omega) (by omega) (by omega)]
    obtain ⟨y1, y2⟩ := t8 u hu
    have c : u = 0 ∨ u = 1 ∨ u = 2 := by omega
    refine ⟨?_, fun q hq => ?_⟩
    · rw [← y1]
      rcases c with rfl | rfl | rfl <;> rcases kc with rfl | rfl <;> exact FM_i fm (by decide)
    · rw [lo _ (by omega) (by omega) (by omega) (by omega) (by omega), ← y2 q hq]
      rcases c with rfl | rfl | rfl <;> rcases kc with rfl | rfl <;> rw [FM_a fm (by decide)]
/-- a row is kept -/
theorem TE_r {κ : Nat} {C : Nat → Int32} {cnt : Int32} (hS : SK w) (hTE : TE w 1 (al w)) (hκ : κ ≤ 2) (fm : FM ([(1, 3), (15 + 2 * κ, 0)] ++ fl16 ++ fl198) ([16 + 2 * κ] ++ alR ++ [148, 150, 151]) w w2) (hC0 : gI w2 (15 + 2 * κ) 0 = C 0) (hC1 : 0 ≤ (C 0).toInt) (hC2 : (C 0).toInt ≤ 30) (hC : ∀ q, q < 9 * (C 0).toInt.toNat → (gA w2 (16 + 2 * κ)).getD q 0 = C (1 + q)) (g2 : gI w2 1 3 = cnt) (hc2 : cnt.toInt = max (al w 1).toInt (κ + 1)) (hk : κ ≤ (al w 1).toInt.toNat) (g5 : gI w2 1 5 = 0) (g6 : gI w2 1 6 = 0) (g7 : gI w2 1 7 = -1) (hal : ∀ q, al w2 q = tlN false κ C (al w) cnt 1 q) : TE w2 1 (al w2) := by
  obtain ⟨⟨r1, r2, r3, r4, r5, r6, r7⟩, t1, t2, t3, t4, t5, t6, t7, t8⟩ := hTE
  have hal : ∀ q, al w2 q = if q = 2 then 0 else if q = 3 then 0 else if q = 4 then -1 else if q = 1 then cnt else if 874 + 272 * κ ≤ q ∧ q < 874 + 272 * κ + 272 then C (q - (874 + 272 * κ)) else al w q := hal
  have lo : ∀ q, q ≠ 2 → q ≠ 3 → q ≠ 4 → q ≠ 1 → ¬ (874 + 272 * κ ≤ q ∧ q < 874 + 272 * κ + 272) → al w2 q = al w q := fun q h2 h3 h4 h0 hx => by rw [hal, if_neg h2, if_neg h3, if_neg h4, if_neg h0, if_neg hx]
  have e0 : al w2 0 = al w 0 := lo 0 (by decide) (by decide) (by decide) (by decide) (by omega)
  have e1 : al w2 1 = cnt := by rw [hal]; rfl
  have e2 : al w2 2 = 0 := by rw [hal]; rfl
  have e3 : al w2 3 = 0 := by rw [hal]; rfl
  have e4 : al w2 4 = -1 := by rw [hal]; rfl
  have kc : κ = 0 ∨ κ = 1 ∨ κ = 2 := by omega
  have eK : ∀ x, x < 272 → al w2 (874 + 272 * κ + x) = C x := fun x hx => by
    rw [hal, if_neg (by omega), if_neg (by omega), if_neg (by omega), if_neg (by omega), if_pos (by omega), show 874 + 272 * κ + x - (874 + 272 * κ) = x by omega]
  have eK0 : al w2 (874 + 272 * κ) = C 0 := eK 0 (by decide)
  refine ⟨⟨?_, ?_, ?_, ?_, ?_, ?_, ?_⟩, ?_, ?_, ?_, ?_, ?_, ?_, ?_, ?_⟩
  · rw [e0]; exact r1
  · rw [e0]; exact r2
  · rw [e1]; omega
  · rw [e1]; omega
  · rw [e2]; decide
  · rw [e2]; decide
  · intro u hu
    rw [e1] at hu
    by_cases e : u = κ
    · rw [e, eK0]; exact ⟨hC1, hC2⟩
    · rw [lo _ (by omega) (by omega) (by omega) (by omega) (by omega)]
      exact r7 u (by omega)
  · rw [e0, ← t1]; rcases kc with rfl | rfl | rfl <;> exact FM_i fm (by decide)
  · rw [e1]; exact g2
  · rw [e2]; exact g5
  · rw [e3]; exact g6
  · rw [e4]; exact g7
  · intro j hj
    rw [e2] at hj
    exact absurd hj (by show ¬ j < 0; omega)
  · intro u hu k hk'
    rw [e0] at hu
    rw [lo _ (by omega) (by omega) (by omega) (by omega) (by omega), ← t7 u hu k hk']
    have c : u = 0 ∨ u = 1 := by omega
    rcases c with rfl | rfl
    · rcases kc with rfl | rfl | rfl <;> exact vcl_FMv hS fm (by decide +kernel) (by decide) (by decide) (by decide) (by decide) (by decide) (by decide) (by decide) k
    · rcases kc with rfl | rfl | rfl <;> exact vcl_FMv hS fm (by decide +kernel) (by decide) (by decide) (by decide) (by decide) (by decide) (by decide) (by decide) k
  · intro u hu
    rw [e1] at hu
    by_cases e : u = κ
    · rw [e, eK0, show 1 + 14 + 2 * κ = 15 + 2 * κ by omega, show 1 + 15 + 2 * κ = 16 + 2 * κ by omega]
      refine ⟨hC0, fun q hq => ?_⟩
      rw [hC q hq, show 874 + 272 * κ + 1 + q = 874 + 272 * κ + (1 + q) by omega, eK _ (by omega)]
    · rw [lo _ (by omega) (by omega) (by omega) (by omega) (by omega)]
      obtain ⟨y1, y2⟩ := t8 u (by omega)
      have ra := r7 u (by omega)
      have c : (u = 0 ∧ κ = 1) ∨ (u = 0 ∧ κ = 2) ∨ (u = 1 ∧ κ = 0) ∨ (u = 1 ∧ κ = 2) ∨ (u = 2 ∧ κ = 0) ∨ (u = 2 ∧ κ = 1) := by omega
      refine ⟨?_, fun q hq => ?_⟩
      · rw [← y1]
        rcases c with ⟨rfl, rfl⟩ | ⟨rfl, rfl⟩ | ⟨rfl, rfl⟩ | ⟨rfl, rfl⟩ | ⟨rfl, rfl⟩ | ⟨rfl, rfl⟩ <;> exact FM_i fm (by decide)
      · rw [lo _ (by omega) (by omega) (by omega) (by omega) (by omega), ← y2 q hq]
        rcases c with ⟨rfl, rfl⟩ | ⟨rfl, rfl⟩ | ⟨rfl, rfl⟩ | ⟨rfl, rfl⟩ | ⟨rfl, rfl⟩ | ⟨rfl, rfl⟩ <;> rw [FM_a fm (by decide)]
end GP
end
section
/-! ===== text: both sides answer alike, and what is told stays alike ===== -/
section GQT
variable {X : pm_X} {k k2 : Nat} {w0 w w1 w2 w' : pm_W} {r r2 : Option Value} {p p1 p2 p3 f0 p0 f q : Int32} {bs cs : Nat → Int32} {n i v j m a s T : Nat} {b : Bool} {c : Nat → Int32} {g : Int}
def flTX : List (Nat × Nat) := [(1, 2), (1, 3), (5, 0), (5, 1), (5, 2), (10, 0), (10, 1), (10, 2), (15, 0), (17, 0), (19, 0)] ++ fl16 ++ fl198
def alTX : List Nat := [6, 7, 8, 9, 11, 12, 13, 14, 16, 18, 20] ++ alR ++ [148, 150, 151]
theorem RD_eq {N N' : Nat} {o o' : OC} (hBE : BEq bs cs n) (h : RDq b bs n N 0 0 (-1) (i0 b) (-1) o) (h' : RDq b cs n N' 0 0 (-1) (i0 b) 0 o') : fF b o' = fF b o ∧ pF b n o' = pF b n o ∧ o'.2.2.2.1 = o.2.2.2.1 := by
  have e := RD_det N N' (RD_g N h) (BE_RD hBE N' h')
  rw [e]
  obtain ⟨z1, z2⟩ := og_F (b := b) (n := n) (o := o) (fun hb => by
    subst hb
    exact RD_people N h (by decide +kernel))
  exact ⟨z1, z2, rfl⟩
theorem TXT (hX : XO X) (hS : SK w) (hTE : TE w 1 (al w)) (h1 : PS X k 16 0 [.ref 0, .int p1, .int p2, pm_dead, pm_dead] [] w r w1) (h2 : PS X k2 198 0 [.ref 147, .int p1, .int p2, pm_dead, pm_dead, pm_dead] [] w1 r2 w2) : r2 = r ∧ TE w2 1 (al w2) ∧ FM flTX alTX w w2 ∧ ∀ q, 1690 ≤ q → al w2 q = al w q := by
  have hTE' := hTE
  obtain ⟨⟨r1, r2', r3, r4, r5, r6, r7⟩, t1, t2, t3, t4, t5, t6, t7, t8⟩ := hTE
  have A := F16 (n := (al w 2).toInt.toNat) hX hS (by rw [t1]; exact r1) (by rw [t1]; exact r2') (by rw [t2]; exact r3) (by rw [t2]; exact r4) (by rw [t3]; omega) (by omega) rfl h1
  rw [t1, t2] at A
  -- the reference's run, from w1, whose all is w's
  have ref : FM flTX alTX w w1 → gA w1 148 = gA w 148 → FM fl198 [148, 150, 151] w1 w2 ∧ ((plcF p1 p2 (al w 0) (al w 1) = -1 ∧ r2 = some (.int (-2)) ∧ ∀ q, al w2 q = if q = 4 then -1 else if q = 3 then 0 else if q = 2 then 0 else al w q) ∨ (plcF p1 p2 (al w 0) (al w 1) ≠ -1 ∧ ∃ (N : Nat) (o : OC), RDq (decide (p1 = 0)) (rb w) (al w 2).toInt.toNat N 0 0 (-1) (i0 (decide (p1 = 0))) 0 o ∧ ((fF (decide (p1 = 0)) o ≠ 0 ∧ r2 = some (.int (-1)) ∧ ∀ q, al w2 q = if q = 3 then fF (decide (p1 = 0)) o else if q = 4 then pF (decide (p1 = 0)) (al w 2).toInt.toNat o else if q = 2 then 0 else al w q) ∨ (fF (decide (p1 = 0)) o = 0 ∧ r2 = some (.int (plcF p1 p2 (al w 0) (al w 1))) ∧ ∃ (s0 : Nat) (cnt : Int32), ((p1 = 0 ∧ cnt = al w 0 ∧ s0 = 0) ∨ (p1 = 1 ∧ cnt = al w 1 ∧ s0 = 1)) ∧ ∀ q, al w2 q = tlN (decide (p1 = 0)) (plcF p1 p2 (al w 0) (al w 1)).toInt.toNat o.2.2.2.1 (al w) (if p2 = -1 then cnt + 1 else cnt) s0 q)))) := by
    intro f1 g8
    have ea : al w1 = al w := by funext q; unfold al; rw [g8]
    have eb : rb w1 = rb w := by funext q; unfold rb; rw [g8]
    have z := F198 (n := (al w 2).toInt.toNat) (b := decide (p1 = 0)) f1.2.2.2 (by rw [ea]; exact r5) (by rw [ea]; exact r6) (by rw [ea]) (fun i hi => by
      rw [eb]
      have y := (t6 i hi).2.2
      have y1 := (t6 i hi).1
      show 0 ≤ (al w (10 + i)).toInt
      rw [y]
      split <;> omega) (by rw [ea]; exact r1) (by rw [ea]; exact r2') (by rw [ea]; exact r3) (by rw [ea]; exact r4) rfl h2
    rw [ea, eb] at z
    exact ⟨FM_mono z.1 (by decide) (by decide), z.2⟩
  have hBE : BEq (tb w) (rb w) (al w 2).toInt.toNat := TE_BE hTE' rfl
  rcases A with ⟨a1, a2, a3, a4, a5, a6⟩ | ⟨a1, N, o, a2, ⟨a3, a4, a5, a6, a7, a8⟩ | ⟨a3, a4, a5, a6, a7, κ, a8, a9⟩⟩
  · obtain ⟨f2, B⟩ := ref (FM_mono a3 (by decide) (by decide)) (FM_a a3 (by decide))
    rcases B with ⟨b1, b2, b3⟩ | ⟨b1, _⟩
    · refine ⟨by rw [a2, b2], ?_, FM_trans (FM_mono a3 (by decide) (by decide)) (FM_mono f2 (by decide) (by decide)), fun q hq => by rw [b3, if_neg (by omega), if_neg (by omega), if_neg (by omega)]⟩
      refine TE_n (f := 0) (p := -1) (as := alR ++ [148, 150, 151]) hS hTE' (FM_trans (FM_mono a3 (by decide) (by decide)) (FM_mono f2 (by decide) (by decide))) (by decide) ?_ ?_ ?_ (fun q => ?_)
      · rw [FM_i f2 (by decide)]; exact a4
      · rw [FM_i f2 (by decide)]; exact a5
      · rw [FM_i f2 (by decide)]; exact a6
      · rw [b3 q]
        by_cases q3 : q = 3
        · rw [if_neg (by omega), if_pos q3, if_pos q3]
        · rw [if_neg q3, if_neg q3]
    · exact absurd a1 b1
  · obtain ⟨f2, B⟩ := ref (FM_mono a5 (by decide) (by decide)) (FM_a a5 (by decide))
    rcases B with ⟨b1, _⟩ | ⟨b1, N', o', b2, B⟩
    · exact absurd b1 a1
    · obtain ⟨e1, e2, e3⟩ := RD_eq hBE a2 b2
      rcases B with ⟨c1, c2, c3⟩ | ⟨c1, _⟩
      · rw [e1, e2] at c3
        refine ⟨by rw [a4, c2], ?_, FM_trans (FM_mono a5 (by decide) (by decide)) (FM_mono f2 (by decide) (by decide)), fun q hq => by rw [c3, if_neg (by omega), if_neg (by omega), if_neg (by omega)]⟩
        refine TE_n (as := alR ++ [148, 150, 151]) hS hTE' (FM_trans (FM_mono a5 (by decide) (by decide)) (FM_mono f2 (by decide) (by decide))) (by decide) ?_ ?_ ?_ c3
        · rw [FM_i f2 (by decide)]; exact a6
        · rw [FM_i f2 (by decide)]; exact a7
        · rw [FM_i f2 (by decide)]; exact a8
      · rw [e1] at c1
        exact absurd c1 a3
  · have hkc : κ = 0 ∨ κ = 1 ∨ κ = 2 := by
      rcases a9 with ⟨_, h, _⟩ | ⟨_, h, _⟩
      · omega
      · omega
    have f1 : FM flTX alTX w w1 ∧ gA w1 148 = gA w 148 := by
      rcases a9 with ⟨_, h, fm, _⟩ | ⟨_, h, fm, _⟩
      · have kc : κ = 0 ∨ κ = 1 := by omega
        rcases kc with rfl | rfl
        · exact ⟨FM_mono fm (by decide) (by decide), FM_a fm (by decide)⟩
        · exact ⟨FM_mono fm (by decide) (by decide), FM_a fm (by decide)⟩
      · rcases hkc with rfl | rfl | rfl
        · exact ⟨FM_mono fm (by decide) (by decide), FM_a fm (by decide)⟩
        · exact ⟨FM_mono fm (by decide) (by decide), FM_a fm (by decide)⟩
        · exact ⟨FM_mono fm (by decide) (by decide), FM_a fm (by decide)⟩
    obtain ⟨f2, B⟩ := ref f1.1 f1.2
    rcases B with ⟨b1, _⟩ | ⟨b1, N', o', b2, B⟩
    · exact absurd b1 a1
    · obtain ⟨e1, e2, e3⟩ := RD_eq hBE a2 b2
      rcases B with ⟨c1, _⟩ | ⟨c1, c2, s0, cnt, hs, c3⟩
      · rw [e1] at c1
        exact absurd a3 c1
      · rw [e3] at c3
        have pc := plc_c hs a1
        have hi1690 : ∀ q, 1690 ≤ q → al w2 q = al w q := by
          intro q hq
          rw [c3]
          have sn : q ≠ s0 := by rcases hs with ⟨_, _, h⟩ | ⟨_, _, h⟩ <;> omega
          unfold tlN
          rw [if_neg (by omega), if_neg (by omega), if_neg (by omega), if_neg sn, if_neg]
          rw [a8]
          rcases a9 with ⟨h0, h, _⟩ | ⟨h0, h, _⟩
          · rw [decide_eq_true h0]
            show ¬ (610 + 132 * (κ : Int).toNat ≤ q ∧ q < 610 + 132 * (κ : Int).toNat + 132)
            omega
          · rw [decide_eq_false (by rw [h0]; decide +kernel)]
            show ¬ (874 + 272 * (κ : Int).toNat ≤ q ∧ q < 874 + 272 * (κ : Int).toNat + 272)
            omega
        refine ⟨by rw [a4, c2], ?_, FM_trans f1.1 (FM_mono f2 (by decide) (by decide)), hi1690⟩
        have g5 : gI w2 1 5 = 0 := by rw [FM_i f2 (by decide)]; exact a5
        have g6 : gI w2 1 6 = 0 := by rw [FM_i f2 (by decide)]; exact a6
        have g7 : gI w2 1 7 = -1 := by rw [FM_i f2 (by decide)]; exact a7
        rw [show (plcF p1 p2 (al w 0) (al w 1)).toInt.toNat = κ by omega] at c3
        rcases a9 with ⟨h0, h, fm, hv, hcn⟩ | ⟨h1', h, fm, hr0, hr2, hr1, hr, hcn⟩
        · rw [decide_eq_true h0] at c3
          rcases hs with ⟨_, hs2, hs3⟩ | ⟨hs1, _, _⟩
          · subst hs2
            subst hs3
            have cc := Int32_cnt (κ := κ) a8 r1 (by
              rcases pc with ⟨z1, z2⟩ | ⟨z1, z2, z3⟩
              · exact Or.inl ⟨z1, z2⟩
              · exact Or.inr ⟨z1, z2, z3⟩)
            rw [← cc] at c3
            have kl : κ ≤ (al w 0).toInt.toNat := by
              rcases pc with ⟨z1, z2⟩ | ⟨z1, z2, z3⟩
              · rw [z2] at a8; omega
              · omega
            have fa : FM ([(1, 2), (5 + 5 * κ, 0), (5 + 5 * κ, 1), (5 + 5 * κ, 2)] ++ fl16 ++ fl198) ([6 + 5 * κ, 7 + 5 * κ, 8 + 5 * κ, 9 + 5 * κ] ++ alR ++ [148, 150, 151]) w w2 := FM_trans (FM_mono fm (fun p hp => List.mem_append_left _ hp) (fun p hp => List.mem_append_left _ hp)) (FM_mono f2 (fun p hp => List.mem_append_right _ hp) (fun p hp => List.mem_append_right _ hp))
            have kc : κ = 0 ∨ κ = 1 := by omega
            refine TE_v hS hTE' h fa (fun k => ?_) ?_ ?_ kl g5 g6 g7 c3
            · rw [← hv k]
              rcases kc with rfl | rfl
              · exact vcl_FMv f1.1.2.2.2 f2 (by decide +kernel) (by decide) (by decide) (by decide) (by decide) (by decide) (by decide) (by decide) k
              · exact vcl_FMv f1.1.2.2.2 f2 (by decide +kernel) (by decide) (by decide) (by decide) (by decide) (by decide) (by decide) (by decide) k
            · rw [FM_i f2 (by decide)]; exact hcn
            · by_cases z : (al w 0).toInt < κ + 1
              · rw [if_pos z, zi_add a8 o32 (by omega) (by omega)]; omega
              · rw [if_neg z]; omega
          · rw [h0] at hs1; exact absurd hs1 (by decide +kernel)
        · rw [decide_eq_false (show ¬ p1 = 0 by rw [h1']; decide +kernel)] at c3
          rcases hs with ⟨hs1, _, _⟩ | ⟨_, hs2, hs3⟩
          · rw [h1'] at hs1; exact absurd hs1 (by decide +kernel)
          · subst hs2
            subst hs3
            have cc := Int32_cnt (κ := κ) a8 r3 (by
              rcases pc with ⟨z1, z2⟩ | ⟨z1, z2, z3⟩
              · exact Or.inl ⟨z1, z2⟩
              · exact Or.inr ⟨z1, z2, z3⟩)
            rw [← cc] at c3
            have kl : κ ≤ (al w 1).toInt.toNat := by
              rcases pc with ⟨z1, z2⟩ | ⟨z1, z2, z3⟩
              · rw [z2] at a8; omega
              · omega
            have fa : FM ([(1, 3), (15 + 2 * κ, 0)] ++ fl16 ++ fl198) ([16 + 2 * κ] ++ alR ++ [148, 150, 151]) w w2 := FM_trans (FM_mono fm (fun p hp => List.mem_append_left _ hp) (fun p hp => List.mem_append_left _ hp)) (FM_mono f2 (fun p hp => List.mem_append_right _ hp) (fun p hp => List.mem_append_right _ hp))
            refine TE_r hS hTE' h fa ?_ hr1 hr2 (fun q hq => ?_) ?_ ?_ kl g5 g6 g7 c3
            · rw [← hr0]
              rcases hkc with rfl | rfl | rfl <;> exact FM_i f2 (by decide)
            · rw [← hr q hq]
              rcases hkc with rfl | rfl | rfl <;> rw [FM_a f2 (by decide)]
            · rw [FM_i f2 (by decide)]; exact hcn
            · by_cases z : (al w 1).toInt < κ + 1
              · rw [if_pos z, zi_add a8 o32 (by omega) (by omega)]; omega
              · rw [if_neg z]; omega
end GQT
end
