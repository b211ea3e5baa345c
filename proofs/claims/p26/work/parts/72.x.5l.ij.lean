/-! ===== the reference's flows: evens ===== -/
section IJE
variable {X : pm_X} {k k2 : Nat} {w0 w w1 w2 w3 w4 wj w' : pm_W} {r r2 q0 q1 q2 : Option Value} {p1 p2 p3 p4 i1 i2 i3 i4 i5 i6 z z1 z2 x y : Int32} {i v j m u P t s b Q B I J K n a T p : Nat} {ρ : Nat → Nat} {c : Nat → Nat → Int} {d : Int}
def prR (w : pm_W) (x : Nat) : Nat := (fmR w x).toInt.toNat
def lbb (w : pm_W) (x : Nat) : Bool := decide (0 ≤ (fmR w x).toInt)
theorem lbb_t {w : pm_W} {x : Nat} (h : lbb w x = true) : lbR w x := of_decide_eq_true (p := 0 ≤ (fmR w x).toInt) h
theorem lbb_f {w : pm_W} {x : Nat} (h : lbb w x = false) : ¬ lbR w x := of_decide_eq_false (p := 0 ≤ (fmR w x).toInt) h
def rtR (w : pm_W) (x : Nat) : Bool := decide ((fmR w x).toInt = x)
/-- what the law puts in -/
def EV0 (w : pm_W) : Prop := (∀ a b, a < 10 → b < 10 → -1000000 ≤ moR w a b ∧ moR w a b ≤ 1000000 ∧ -1000000 ≤ loR w a b ∧ loR w a b ≤ 1000000 ∧ cR w a b ≤ 1000000) ∧ ∀ a, a < 10 → -1000000 ≤ ovR w a ∧ ovR w a ≤ 1000000
def FLs (w0 w : pm_W) : Prop := FM [] [162, 163, 164] w0 w ∧ CPL w ∧ (∀ i j, i < 10 → j < 10 → 0 ≤ fwR w i j) ∧ ∀ i, i < 10 → fwR w i i = 0
def EV (w0 w : pm_W) : Prop := FLs w0 w ∧ FLW (cR w0) (rsR w) 10 ∧ (∀ a, a < 10 → gone (cR w0) (rsR w) 10 a = ovR w0 a - ovR w a) ∧ OV (ovR w0) (ovR w) 10
theorem mo_fm {fs : List (Nat × Nat)} {as : List Nat} (h : FM fs as w w') (n : 161 ∉ as) : moR w' = moR w := by funext i j; unfold moR; rw [FM_a h n]
theorem lo_fm {fs : List (Nat × Nat)} {as : List Nat} (h : FM fs as w w') (n : 160 ∉ as) : loR w' = loR w := by funext i j; unfold loR; rw [FM_a h n]
theorem fw_fm {fs : List (Nat × Nat)} {as : List Nat} (h : FM fs as w w') (n : 162 ∉ as) : fwR w' = fwR w := by funext i j; unfold fwR; rw [FM_a h n]
theorem ov_fm {fs : List (Nat × Nat)} {as : List Nat} (h : FM fs as w w') (n : 163 ∉ as) : ovR w' = ovR w := by funext i; unfold ovR; rw [FM_a h n]
theorem fm_fm {fs : List (Nat × Nat)} {as : List Nat} (h : FM fs as w w') (n : 164 ∉ as) : fmR w' = fmR w := by funext i; unfold fmR; rw [FM_a h n]
theorem rs_e (h1 : moR w' = moR w) (h2 : loR w' = loR w) (h3 : fwR w' = fwR w) : rsR w' = rsR w := by funext i j; unfold rsR; rw [h1, h2, h3]
theorem OV_b (h0 : EV0 w0) (hO : OV (ovR w0) (ovR w) 10) (ha : a < 10) : -1000000 ≤ ovR w a ∧ ovR w a ≤ 1000000 := by
  have q := hO a ha
  have q2 := h0.2 a ha
  by_cases c : 0 ≤ ovR w0 a
  · have := q.1 c; omega
  · have := q.2 (by omega); omega
theorem EV_RG (h0 : EV0 w0) (hf : FLs w0 w) (hF : FLW (cR w0) (rsR w) 10) (hov : ∀ a, a < 10 → -1000000 ≤ ovR w a ∧ ovR w a ≤ 1000000) : RGr w := by
  have em := mo_fm hf.1 (by decide)
  have el := lo_fm hf.1 (by decide)
  refine ⟨fun a b ha hb => ?_, hov⟩
  rw [em, el]
  obtain ⟨m1, m2, m3, m4, m5⟩ := h0.1 a b ha hb
  refine ⟨m1, m2, m3, m4, hf.2.2.1 a b ha hb, ?_⟩
  by_cases e : a = b
  · rw [← e, hf.2.2.2 a ha]; omega
  · have q := hF.1 a b ha hb e
    have q2 := hf.2.2.1 a b ha hb
    unfold rsR at q
    rw [em, el] at q
    unfold cR at m5
    rcases hf.2.1 a b ha hb e with z | z
    · omega
    · omega
theorem WI_PTH (hW : WI0 w0 w ρ T) : PTH 10 (prR w) (lbb w) (rtR w) ρ := by
  intro x hx hl
  rcases hW.2.1 x hx (lbb_t hl) with ⟨a1, _⟩ | ⟨p, h1, h2, h3, h4, h5, h6⟩
  · exact Or.inl (decide_eq_true a1)
  · right
    have e : prR w x = p := by unfold prR; omega
    rw [e]
    exact ⟨h1, decide_eq_true h4, h5⟩
theorem WI_rt (hW : WI0 w0 w ρ T) (hx : a < 10) (hl : lbb w a = true) (hr : rtR w a = true) : 0 < ovR w0 a := by
  have hr := of_decide_eq_true hr
  rcases hW.2.1 a hx (lbb_t hl) with ⟨_, a1⟩ | ⟨p, h1, h2, h3, _⟩
  · exact a1
  · exact absurd (by omega) h3
theorem WI_nr (hW : WI0 w0 w ρ T) (hx : a < 10) (hl : lbb w a = true) (hr : rtR w a = false) : (fmR w a).toInt = prR w a ∧ prR w a < 10 ∧ prR w a ≠ a ∧ 0 < rsR w0 (prR w a) a := by
  have hr := of_decide_eq_false hr
  rcases hW.2.1 a hx (lbb_t hl) with ⟨a1, _⟩ | ⟨p, h1, h2, h3, _, _, h6⟩
  · exact absurd a1 hr
  · have e : prR w a = p := by unfold prR; omega
    rw [e]
    exact ⟨h2, h1, h3, h6⟩
theorem ovR_s (hS : SK w) (hx : x.toInt = a) (ha : a < 10) (q : Nat) : ovR (aS w 163 x y) q = if q = a then y.toInt else ovR w q := by
  unfold ovR
  rw [gA_aS (SK_isA hS (by decide +kernel)), i_nat hx, getD_set (by rw [l163 hS]; exact ha)]
  by_cases e : q = a
  · rw [if_pos e, if_pos e]
  · rw [if_neg e, if_neg e]
/-- what evens answers -/
def EVR (w0 w' : pm_W) (r : Option Value) : Prop := FM [] [162, 163, 164] w0 w' ∧ ∃ b : Bool, r = some (.int (b2i b)) ∧ MCo (cR w0) (ovR w0) 10 (suI (fun a => psI (ovR w0 a)) 10 - suI (fun a => psI (ovR w' a)) 10) ∧ OV (ovR w0) (ovR w') 10 ∧ (b = true ↔ ∀ a, a < 10 → ovR w' a ≤ 0)
theorem F278_164 (hS : SK w) : ∀ (k A : Nat) (i1 i2 i3 : Int32) (u4 : Value), i3.toInt = A → A ≤ 10 → ((i2 = 1 ∧ ∀ a, a < A → ovR w a ≤ 0) ∨ (i2 = 0 ∧ ∃ a, a < 10 ∧ 0 < ovR w a)) → PS X k 278 164 [.ref 147, .int i1, .int i2, .int i3, u4] [] w r w' → w' = w ∧ ∃ b : Bool, r = some (.int (b2i b)) ∧ (b = true ↔ ∀ a, a < 10 → ovR w a ≤ 0) := by
  intro k
  induction k using Nat.strongRecOn with
  | _ k ih =>
    intro A i1 i2 i3 u4 h3 hA hc h
    match k, ih, h with
    | 0, _, h => exact (PS_0 h).elim
    | k + 1, ih, h =>
      have h := U278_164 hS h
      by_cases c : 10 ≤ i3
      · rw [if_pos c] at h
        rw [Int32.le_iff_toInt_le, ten32, h3] at c
        rcases hc with ⟨e, q⟩ | ⟨e, a, q1, q2⟩
        · exact ⟨h.2, true, by rw [h.1, e]; rfl, fun _ a ha => q a (by omega), fun _ => rfl⟩
        · exact ⟨h.2, false, by rw [h.1, e]; rfl, fun z => Bool.noConfusion z, fun z => by have := z a q1; omega⟩
      · rw [if_neg c] at h
        rw [Int32.le_iff_toInt_le, ten32, h3] at c
        have e1 : (i3 + 1).toInt = ((A + 1 : Nat) : Int) := by rw [zi_inc (n := 40) (by omega) (by omega), h3]; rfl
        have go : (∃ a, a < 10 ∧ 0 < ovR w a) → PS X k 278 187 [.ref 147, .int i1, .int i2, .int i3, u4] [] w r w' → w' = w ∧ ∃ b : Bool, r = some (.int (b2i b)) ∧ (b = true ↔ ∀ a, a < 10 → ovR w a ≤ 0) := by
          intro hex h
          match k, ih, h with
          | 0, _, h => exact (PS_0 h).elim
          | k + 1, ih, h => exact ih k (by omega) (A + 1) _ _ _ _ e1 (by omega) (Or.inr ⟨rfl, hex⟩) (U278_187 hS h)
        by_cases c2 : i2 = 0
        · rw [if_pos c2] at h
          rcases hc with ⟨e, q⟩ | ⟨e, q⟩
          · rw [c2] at e; exact absurd e (by decide +kernel)
          · exact go q h
        · rw [if_neg c2] at h
          obtain ⟨_, h⟩ := h
          have eo : (aG w 163 i3).toInt = ovR w A := by rw [aG_n h3]; rfl
          by_cases c3 : 0 < aG w 163 i3
          · rw [if_pos c3] at h
            rw [Int32.lt_iff_toInt_lt, z32, eo] at c3
            exact go ⟨A, by omega, c3⟩ h
          · rw [if_neg c3] at h
            rw [Int32.lt_iff_toInt_lt, z32, eo] at c3
            rcases hc with ⟨e, q⟩ | ⟨e, q⟩
            · refine ih k (by omega) (A + 1) _ _ _ _ e1 (by omega) (Or.inl ⟨rfl, fun a ha => ?_⟩) h
              by_cases e2 : a = A
              · rw [e2]; omega
              · exact q a (by omega)
            · exact absurd e c2
theorem F278_l (h0 : EV0 w0) : ∀ k : Nat,
    (∀ (w1 w : pm_W) (i1 : Int32) (u2 u3 u4 : Value), EV w0 w1 → FM [] [164] w1 w → ((i1 = -1 ∧ NOWr w1 w) ∨ ∃ b : Nat, i1.toInt = b ∧ WAYr w1 w b) → PS X k 278 5 [.ref 147, .int i1, u2, u3, u4] [] w r w' → EVR w0 w' r) ∧
    (∀ (w1 w : pm_W) (ρ : Nat → Nat) (T b j : Nat) (i1 i2 i3 : Int32) (u4 : Value), EV w0 w1 → FM [] [164] w1 w → WI0 w1 w ρ T → b < 10 → lbb w b = true → ovR w1 b < 0 → i1.toInt = b → i3.toInt = (itr (prR w) b j : Nat) → (∀ i, i < j → rtR w (itr (prR w) b i) = false) → 0 < i2.toInt → i2.toInt ≤ -ovR w1 b → (∀ i, i < j → i2.toInt ≤ rsR w1 (itr (prR w) b (i + 1)) (itr (prR w) b i)) → PS X k 278 19 [.ref 147, .int i1, .int i2, .int i3, u4] [] w r w' → EVR w0 w' r) ∧
    (∀ (w1 w wj : pm_W) (ρ : Nat → Nat) (T b J j : Nat) (i1 i2 i3 i4 : Int32), WI0 w1 w ρ T → FM [] [162, 163] w wj → b < 10 → lbb w b = true → i1.toInt = b → i4.toInt = (itr (prR w) b j : Nat) → j ≤ J → (∀ i, i < J → rtR w (itr (prR w) b i) = false) → rtR w (itr (prR w) b J) = true → 0 < i2.toInt → i2.toInt ≤ 1000000 → FLs w0 wj → PSJ (cR w0) (rsR w1) (rsR wj) 10 (prR w) b J j i2.toInt → (∀ a, a < 10 → gone (cR w0) (rsR w1) 10 a + (if a = itr (prR w) b J then i2.toInt else 0) - (if a = b then i2.toInt else 0) = ovR w0 a - ovR wj a) → OV (ovR w0) (ovR wj) 10 → PS X k 278 114 [.ref 147, .int i1, .int i2, .int i3, .int i4] [] wj r w' → EVR w0 w' r) := by
  have m1 : (-1 : Int32).toInt = -1 := by decide +kernel
  intro k
  induction k with
  | zero => exact ⟨fun _ _ _ _ _ _ _ _ _ h => (PS_0 h).elim, fun _ _ _ _ _ _ _ _ _ _ _ _ _ _ _ _ _ _ _ _ _ _ h => (PS_0 h).elim, fun _ _ _ _ _ _ _ _ _ _ _ _ _ _ _ _ _ _ _ _ _ _ _ _ _ _ _ h => (PS_0 h).elim⟩
  | succ k ih =>
    obtain ⟨ih5, ih19, ih114⟩ := ih
    refine ⟨fun w1 w i1 u2 u3 u4 hE f1 hc h => ?_, fun w1 w ρ T b j i1 i2 i3 u4 hE f1 hW hb hlb hob h1 h3 hn hp hp2 hle h => ?_, fun w1 w wj ρ T b J j i1 i2 i3 i4 hW fj hb hlb h1 h4 hj hn hJ hp hp2 hfl hps hg hO h => ?_⟩
    · have hS : SK w := f1.2.2.2
      have h := U278_5 hS h
      have eo : ovR w = ovR w1 := ov_fm f1 (by decide)
      rcases hc with ⟨e, hno⟩ | ⟨b, hb, hway⟩
      · rw [if_pos (by rw [e]; decide +kernel)] at h
        obtain ⟨e', b, er, hbb⟩ := F278_164 hS k 0 _ _ _ _ z32 (by omega) (Or.inl ⟨rfl, fun a ha => absurd ha (Nat.not_lt_zero a)⟩) h
        obtain ⟨hf, hF, hg, hO⟩ := hE
        obtain ⟨ρ, T, hW, hcl⟩ := hno
        rw [e']
        refine ⟨FM_trans hf.1 (FM_mono f1 (by intro x hx; cases hx) (by decide)), b, er, ?_, by rw [eo]; exact hO, hbb⟩
        rw [eo]
        refine o_MC (S := lbb w) hF hg hO (fun a b ha hb h1 h2 => ?_) (fun a ha hv => ?_) (fun a ha hv => ?_)
        · have h1 : lbR w a := lbb_t h1
          have h2 : ¬ lbR w b := lbb_f h2
          have q := hcl a b ha hb h1 h2
          have q2 := hF.1 a b ha hb (fun e => h2 (e ▸ h1))
          omega
        · exact decide_eq_true (hW.1.2.2.2 a ha hv)
        · refine decide_eq_false (fun hl => ?_)
          have := hW.2 a ha hl
          omega
      · obtain ⟨ρ, T, hW, hb10, hlb, hob⟩ := hway
        rw [if_neg (by rw [Int32.lt_iff_toInt_lt, z32, hb]; omega)] at h
        obtain ⟨_, h⟩ := h
        have ev : (aG w 163 i1).toInt = ovR w1 b := by rw [aG_n hb, ← eo]; rfl
        obtain ⟨l1, l2⟩ := OV_b h0 hE.2.2.2 hb10
        have en : (-(aG w 163 i1)).toInt = -ovR w1 b := zi_neg ev (by omega) (by omega)
        exact ih19 w1 w ρ T b 0 i1 _ i1 u4 hE f1 hW hb10 (decide_eq_true hlb) hob hb hb (fun i hi => absurd hi (Nat.not_lt_zero i)) (by rw [en]; omega) (by rw [en]; omega) (fun i hi => absurd hi (Nat.not_lt_zero i)) h
    · have hS : SK w := f1.2.2.2
      have h := U278_19 hS h
      have eo : ovR w = ovR w1 := ov_fm f1 (by decide)
      have er : rsR w = rsR w1 := rs_e (mo_fm f1 (by decide)) (lo_fm f1 (by decide)) (fw_fm f1 (by decide))
      have hP := WI_PTH hW
      obtain ⟨a1, a2, _⟩ := itr_in hP hb hlb j hn
      have hRG1 := EV_RG h0 hE.1 hE.2.1 (fun a ha => OV_b h0 hE.2.2.2 ha)
      have hRG : RGr w := by
        refine ⟨fun a b ha hb => ?_, fun a ha => ?_⟩
        · rw [mo_fm f1 (by decide), lo_fm f1 (by decide), fw_fm f1 (by decide)]; exact hRG1.1 a b ha hb
        · rw [eo]; exact hRG1.2 a ha
      obtain ⟨_, h⟩ := h
      have e4 : aG w 164 i3 = fmR w (itr (prR w) b j) := aG_n h3
      rw [e4] at h
      by_cases c : fmR w (itr (prR w) b j) = i3
      · rw [if_pos c] at h
        have hrt : rtR w (itr (prR w) b j) = true := decide_eq_true (by rw [c, h3])
        have hov := WI_rt hW a1 a2 hrt
        obtain ⟨xr, hxr⟩ : ∃ xr, xr = itr (prR w) b j := ⟨_, rfl⟩
        rw [← hxr] at h3 a1 a2 hov
        have hne : xr ≠ b := fun e => by rw [e] at hov; omega
        have ev : (aG w 163 i3).toInt = ovR w1 xr := by rw [aG_n h3, ← eo]; rfl
        obtain ⟨l1, l2⟩ := OV_b h0 hE.2.2.2 a1
        obtain ⟨l3, l4⟩ := OV_b h0 hE.2.2.2 hb
        -- both stores, then the pushes
        have go : ∀ (dv y1 y2 : Int32) , 0 < dv.toInt → dv.toInt ≤ i2.toInt → dv.toInt ≤ ovR w1 xr → y1.toInt = ovR w1 xr - dv.toInt → y2.toInt = ovR w1 b + dv.toInt → PS X k 278 114 [.ref 147, .int i1, .int dv, .int i3, .int i1] [] (aS (aS w 163 i3 y1) 163 i1 y2) r w' → EVR w0 w' r := by
          intro dv y1 y2 g1 g2 g3 e1 e2 h
          have S1 : SK (aS w 163 i3 y1) := SK_aS hS
          have ov2 : ∀ q, ovR (aS (aS w 163 i3 y1) 163 i1 y2) q = if q = b then ovR w1 b + dv.toInt else if q = xr then ovR w1 xr - dv.toInt else ovR w1 q := by
            intro q
            rw [ovR_s S1 h1 hb, ovR_s hS h3 a1, e1, e2, eo]
          have f2 : FM [] [162, 163] w (aS (aS w 163 i3 y1) 163 i1 y2) := FM_trans (FM_aS hS (by decide)) (FM_aS S1 (by decide))
          have f3 : FM [] [163] w (aS (aS w 163 i3 y1) 163 i1 y2) := FM_trans (FM_aS hS (by decide)) (FM_aS S1 (by decide))
          have ef : fwR (aS (aS w 163 i3 y1) 163 i1 y2) = fwR w1 := (fw_fm f3 (by decide)).trans (fw_fm f1 (by decide))
          have e9 : rsR (aS (aS w 163 i3 y1) 163 i1 y2) = rsR w1 := (rs_e (mo_fm f3 (by decide)) (lo_fm f3 (by decide)) (fw_fm f3 (by decide))).trans er
          obtain ⟨⟨hf1, hf2, hf3, hf4⟩, hF, hg, hO⟩ := hE
          refine ih114 w1 w _ ρ T b j 0 i1 dv i3 i1 hW f2 hb hlb h1 h1 (Nat.zero_le _) hn hrt g1 (by omega) ⟨FM_trans hf1 (FM_trans (FM_mono f1 (by intro x hx; cases hx) (by decide)) (FM_mono f2 (by intro x hx; cases hx) (by decide))), ?_, ?_, ?_⟩ ?_ (fun a ha => ?_) (fun a ha => ?_) h
          · intro a b ha hb hab; rw [ef]; exact hf2 a b ha hb hab
          · intro a b ha hb; rw [ef]; exact hf3 a b ha hb
          · intro a ha; rw [ef]; exact hf4 a ha
          · rw [e9]
            exact PSJ_0 hF (fun i hi => by have := hle i hi; omega)
          · rw [hg a ha, ov2, ← hxr]
            by_cases q1 : a = b
            · rw [if_pos q1, if_pos q1, if_neg (fun z => hne (z.symm.trans q1)), q1]; omega
            · rw [if_neg q1, if_neg q1]
              by_cases q2 : a = xr
              · rw [if_pos q2, if_pos q2, q2]; omega
              · rw [if_neg q2, if_neg q2]; omega
          · rw [ov2]
            have q := hO a ha
            by_cases q1 : a = b
            · rw [if_pos q1]
              rw [q1] at q ⊢
              refine ⟨fun z => ?_, fun z => ?_⟩
              · have := q.1 z; omega
              · have := q.2 z; omega
            · rw [if_neg q1]
              by_cases q2 : a = xr
              · rw [if_pos q2]
                rw [q2] at q ⊢
                refine ⟨fun z => ?_, fun z => ?_⟩
                · have := q.1 z; omega
                · have := q.2 z; omega
              · rw [if_neg q2]; exact q
        obtain ⟨_, h⟩ := h
        by_cases c2 : i2 ≤ aG w 163 i3
        · rw [if_pos c2] at h
          rw [Int32.le_iff_toInt_le, ev] at c2
          obtain ⟨_, _, h⟩ := h
          have h := h _ rfl
          obtain ⟨_, _, h⟩ := h
          have h := h _ rfl
          have S1 : SK (aS w 163 i3 (aG w 163 i3 - i2)) := SK_aS hS
          have v2 : (aG (aS w 163 i3 (aG w 163 i3 - i2)) 163 i1).toInt = ovR w1 b := by
            rw [aG_n h1]
            show ovR _ b = _
            rw [ovR_s hS h3 a1, if_neg (fun e => hne e.symm), eo]
          exact go i2 _ _ hp (Int.le_refl _) c2 (zi_sub ev rfl (by omega) (by omega)) (zi_add v2 rfl (by omega) (by omega)) h
        · rw [if_neg c2] at h
          rw [Int32.le_iff_toInt_le, ev] at c2
          obtain ⟨_, _, _, h⟩ := h
          have h := h _ rfl
          obtain ⟨_, _, h⟩ := h
          have h := h _ rfl
          have S1 : SK (aS w 163 i3 (aG w 163 i3 - aG w 163 i3)) := SK_aS hS
          have v2 : (aG (aS w 163 i3 (aG w 163 i3 - aG w 163 i3)) 163 i1).toInt = ovR w1 b := by
            rw [aG_n h1]
            show ovR _ b = _
            rw [ovR_s hS h3 a1, if_neg (fun e => hne e.symm), eo]
          exact go (aG w 163 i3) _ _ (by rw [ev]; exact hov) (by rw [ev]; omega) (by rw [ev]; exact Int.le_refl _) (by rw [zi_sub ev ev (by omega) (by omega), ev]) (by rw [zi_add v2 ev (by omega) (by omega), ev]) h
      · rw [if_neg c] at h
        obtain ⟨_, h⟩ := h
        have hrt : rtR w (itr (prR w) b j) = false := decide_eq_false (fun e => c (Int32.toInt_inj.mp (by rw [e, h3])))
        obtain ⟨b1, b2, b3, b4⟩ := WI_nr hW a1 a2 hrt
        obtain ⟨z7, hz7, h⟩ := use_z hS h (fun _ _ y => F280 hS hRG b1 h3 b2 a1 y)
        rw [er] at hz7
        have cont : ∀ nv : Int32, 0 < nv.toInt → nv.toInt ≤ i2.toInt → nv.toInt ≤ rsR w1 (prR w (itr (prR w) b j)) (itr (prR w) b j) → PS X k 278 19 [.ref 147, .int i1, .int nv, .int (aG w 164 i3), u4] [] w r w' → EVR w0 w' r := by
          intro nv g1 g2 g3 h
          rw [e4] at h
          refine ih19 w1 w ρ T b (j + 1) i1 nv _ u4 hE f1 hW hb hlb hob h1 (by rw [b1]; rfl) (fun i hi => ?_) g1 (by omega) (fun i hi => ?_) h
          · by_cases e : i = j
            · rw [e]; exact hrt
            · exact hn i (by omega)
          · by_cases e : i = j
            · rw [e]; exact g3
            · have := hle i (by omega); omega
        by_cases c2 : i2 ≤ z7
        · rw [if_pos c2] at h
          rw [Int32.le_iff_toInt_le, hz7] at c2
          exact cont i2 hp (Int.le_refl _) c2 h.2
        · rw [if_neg c2] at h
          rw [Int32.le_iff_toInt_le, hz7] at c2
          obtain ⟨_, h⟩ := h
          rw [e4] at h
          obtain ⟨z8, hz8, h⟩ := use_z hS h (fun _ _ y => F280 hS hRG b1 h3 b2 a1 y)
          rw [er] at hz8
          refine cont z8 (by rw [hz8]; exact b4) (by rw [hz8]; omega) (by rw [hz8]; exact Int.le_refl _) h.2
    · have hSj : SK wj := fj.2.2.2
      have h := U278_114 hSj h
      have efm : fmR wj = fmR w := fm_fm fj (by decide)
      obtain ⟨_, h⟩ := h
      have e4 : aG wj 164 i4 = fmR w (itr (prR w) b j) := by rw [aG_n h4, ← efm]; rfl
      rw [e4] at h
      by_cases c : fmR w (itr (prR w) b j) = i4
      · rw [if_pos c] at h
        have hrt : rtR w (itr (prR w) b j) = true := decide_eq_true (by rw [c, h4])
        have ejJ : j = J := by
          by_cases e : j < J
          · rw [hn j e] at hrt; exact Bool.noConfusion hrt
          · omega
        rw [ejJ] at hps
        have hEj : EV w0 wj := ⟨hfl, hps.1, fun a ha => by rw [hps.2.2 a ha]; exact hg a ha, hO⟩
        have hRG := EV_RG h0 hEj.1 hEj.2.1 (fun a ha => OV_b h0 hEj.2.2.2 ha)
        obtain ⟨q1, w5, y, h5⟩ := h
        obtain ⟨f5, alt⟩ := F279 hSj hRG y
        rcases alt with ⟨a1, a2⟩ | ⟨z, b', a1, a2, a3⟩
        · exact ih5 wj w5 _ _ _ _ hEj f5 (Or.inl ⟨rfl, a2⟩) (h5 _ a1 f5.2.2.2)
        · exact ih5 wj w5 _ _ _ _ hEj f5 (Or.inr ⟨b', a2, a3⟩) (h5 _ a1 f5.2.2.2)
      · rw [if_neg c] at h
        have hrt : rtR w (itr (prR w) b j) = false := decide_eq_false (fun e => c (Int32.toInt_inj.mp (by rw [e, h4])))
        have hjJ : j < J := by
          by_cases e : j = J
          · rw [e, hJ] at hrt; exact Bool.noConfusion hrt
          · omega
        have hP := WI_PTH hW
        obtain ⟨a1, a2, _⟩ := itr_in hP hb hlb j (fun i hi => hn i (by omega))
        obtain ⟨b1, b2, b3, b4⟩ := WI_nr hW a1 a2 hrt
        have hRG := EV_RG h0 hfl hps.1 (fun a ha => OV_b h0 hO ha)
        obtain ⟨_, q4, w5, y, h5⟩ := h
        obtain ⟨p1', p2', p3', p4', p5', p6'⟩ := F281 (d := i2.toInt) hSj hRG hfl.2.1 b1 h4 b2 a1 b3 rfl (by omega) hp2 y
        have S5 : SK w5 := p2'.2.2.2
        have h := (h5 p1' S5).2
        have e5 : aG w5 164 i4 = fmR w (itr (prR w) b j) := by rw [aG_n h4, FM_a p2' (by decide), ← efm]; rfl
        rw [e5] at h
        have eo5 : ovR w5 = ovR wj := ov_fm p2' (by decide)
        refine ih114 w1 w w5 ρ T b J (j + 1) i1 i2 i3 _ hW (FM_trans fj (FM_mono p2' (by intro x hx; cases hx) (by decide))) hb hlb h1 (by rw [b1]; rfl) (by omega) hn hJ hp hp2 ⟨FM_trans hfl.1 (FM_mono p2' (by intro x hx; cases hx) (by decide)), p4', p5', fun i hi => by rw [p6' i i hi hi rfl]; exact hfl.2.2.2 i hi⟩ (PSJ_s hP hb hlb hn (by omega) hjJ hps p3') (fun a ha => by rw [eo5]; exact hg a ha) (by rw [eo5]; exact hO) h
theorem F278 (hS : SK w) (h0 : EV0 w) (hfl : ∀ a b, a < 10 → b < 10 → fwR w a b = 0) (hc0 : ∀ a b, a < 10 → b < 10 → a ≠ b → 0 ≤ cR w a b) (h : PS X k 278 0 [.ref 147, pm_dead, pm_dead, pm_dead, pm_dead] [] w r w') : EVR w w' r := by
  have ers : ∀ a b, a < 10 → b < 10 → rsR w a b = cR w a b := by
    intro a b ha hb
    unfold rsR cR
    rw [hfl a b ha hb, hfl b a hb ha]
    omega
  have hE : EV w w := by
    refine ⟨⟨FM_refl hS, fun a b ha hb _ => Or.inl (hfl a b ha hb), fun a b ha hb => by rw [hfl a b ha hb]; omega, fun a ha => hfl a a ha ha⟩, ⟨fun a b ha hb hab => by rw [ers a b ha hb]; exact hc0 a b ha hb hab, fun a b ha hb => by rw [ers a b ha hb, ers b a hb ha]⟩, fun a ha => ?_, fun a ha => ⟨fun z => ⟨z, Int.le_refl _⟩, fun z => ⟨Int.le_refl _, z⟩⟩⟩
    have e : gone (cR w) (rsR w) 10 a = 0 := by
      unfold gone
      refine suI_z 10 (fun b hb => ?_)
      rw [ers a b ha hb]
      omega
    rw [e]
    omega
  have hRG := EV_RG h0 hE.1 hE.2.1 (fun a ha => OV_b h0 hE.2.2.2 ha)
  cases k with
  | zero => exact (PS_0 h).elim
  | succ k =>
    obtain ⟨q1, w5, y, h5⟩ := U278_0 hS h
    obtain ⟨f5, alt⟩ := F279 hS hRG y
    rcases alt with ⟨a1, a2⟩ | ⟨z, b', a1, a2, a3⟩
    · exact (F278_l h0 k).1 w w5 _ _ _ _ hE f5 (Or.inl ⟨rfl, a2⟩) (h5 _ a1 f5.2.2.2)
    · exact (F278_l h0 k).1 w w5 _ _ _ _ hE f5 (Or.inr ⟨b', a2, a3⟩) (h5 _ a1 f5.2.2.2)
end IJE
