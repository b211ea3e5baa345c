/-! ===== markNear, gainBy: the class ===== -/
section IZA
variable {X : pm_X} {k k2 : Nat} {w0 w w1 w2 w3 w4 w5 w6 wj w' : pm_W} {r r2 q0 q1 q2 : Option Value} {p1 p2 p3 p4 p5 i0 i1 i2 i3 i4 i5 i6 i7 i8 z z1 z2 : Int32} {i v j m u P t s a b Q I J K T p W N κ : Nat} {R R' C ask c c' : Nat → Nat → Int} {e g d sl x y M : Int} {A B : Nat → Nat} {n o : Nat → Int} {S : Nat → Bool} {wv : Nat → Int32} {s1 t1 t2 : SN} {can : Nat → Prop}
/-- what is worth more than now lacks more than one, or is marked -/
def NR (w : pm_W) (M : Int) (R : Nat → Nat → Int) (P W : Nat) (A B : Nat → Nat) (n : Nat → Int) (wv : Nat → Int32) : Prop := (gI w 68 8).toInt = M ∧ ∀ s, s < 2 ^ W → M < vlS wv W s → ∃ e : Int, LKS R P W A B n s e ∧ ((gA w 78).getD s 0 = 0 → e ≠ 1)
theorem F188 (hS : SK w) (hL : LKw w P W A B n wv) (h : PS X k 188 0 [.ref 68, pm_dead] [] w r w') : r = none ∧ FM [(68, 8)] [75, 76, 78, 80, 81, 82] w w' ∧ NR w' (vlS wv W (bstF (fun s => CANH (rmW w) P W A B n s 0) (bet wv W) (2 ^ W - 1))) (rmW w) P W A B n wv := by
  obtain ⟨M, hMe⟩ : ∃ M, M = vlS wv W (bstF (fun s => CANH (rmW w) P W A B n s 0) (bet wv W) (2 ^ W - 1)) := ⟨_, rfl⟩
  rw [← hMe]
  obtain ⟨v0, _, _, hP9, _, hW7, _⟩ := id hL.1
  have p128 : 2 ^ W ≤ 128 := Nat.le_trans (Nat.pow_le_pow_right (by decide) hW7) (by decide)
  have p1' : 1 ≤ 2 ^ W := Nat.one_le_two_pow
  have ok : ∀ p, p ∈ [(68, 8)] → p.1 = 68 ∧ p.2 ≠ 0 ∧ p.2 ≠ 7 := by decide
  have lp : ∀ (k t : Nat) (wk : pm_W) (i1 : Int32), FM [(68, 8)] [75, 76, 78, 80, 81, 82] w wk → i1.toInt = t → t ≤ 2 ^ W → (gI wk 68 8).toInt = M → (∀ s, s < t → M < vlS wv W s → ∃ e : Int, LKS (rmW w) P W A B n s e ∧ ((gA wk 78).getD s 0 = 0 → e ≠ 1)) → PS X k 188 16 [.ref 68, .int i1] [] wk r w' → r = none ∧ FM [(68, 8)] [75, 76, 78, 80, 81, 82] w w' ∧ NR w' M (rmW w) P W A B n wv := by
    intro k
    induction k with
    | zero => intro t wk i1 _ _ _ _ _ h; exact (PS_0 h).elim
    | succ k ih =>
      intro t wk i1 fm h1 ht hM hN h
      have S1 : SK wk := fm.2.2.2
      have hLk := LKw_g hL fm ok (by decide)
      have h := U188_16 S1 h
      by_cases c : gI wk 68 7 ≤ i1
      · rw [if_pos c] at h
        rw [Int32.le_iff_toInt_le, hLk.2.2.1, h1] at c
        have e : t = 2 ^ W := by omega
        rw [h.2]
        exact ⟨h.1, fm, hM, by rw [← e]; exact hN⟩
      · rw [if_neg c] at h
        rw [Int32.le_iff_toInt_le, hLk.2.2.1, h1] at c
        obtain ⟨_, h⟩ := h
        have e1 : (i1 + 1).toInt = ((t + 1 : Nat) : Int) := by rw [zi_inc (n := 200) (by omega) (by omega), h1]; rfl
        have ev : (aG wk 77 i1).toInt = vlS wv W t := by rw [aG_n h1]; exact hLk.2.2.2.1 t (by omega)
        have step : ∀ (wj : pm_W) (x : Int32), x = 0 ∨ x = 1 → FM [] [75, 76, 80, 81, 82] wk wj → (M < vlS wv W t → ∃ e : Int, LKS (rmW w) P W A B n t e ∧ (x = 0 → e ≠ 1)) → PS X k 188 16 [.ref 68, .int (i1 + 1)] [] (aB wj 78 i1 x) r w' → r = none ∧ FM [(68, 8)] [75, 76, 78, 80, 81, 82] w w' ∧ NR w' M (rmW w) P W A B n wv := by
          intro wj x hx fj hxt hh
          have Sj := fj.2.2.2
          have fb : FM [] [78] wj (aB wj 78 i1 x) := FM_aB Sj (by decide)
          have fjb : FM [(68, 8)] [75, 76, 78, 80, 81, 82] wk (aB wj 78 i1 x) := FM_trans (FM_mono fj (by intro p hp; cases hp) (by decide)) (FM_mono fb (by intro p hp; cases hp) (by decide))
          refine ih (t + 1) _ (i1 + 1) (FM_trans fm fjb) e1 (by omega) (by rw [FM_i fb (by simp), FM_i fj (by simp)]; exact hM) (fun s hs => ?_) hh
          rw [aB_t (L := 128) hx Sj (by decide +kernel) (by decide +kernel) (by decide +kernel) (by decide) h1 (by omega)]
          by_cases e : s = t
          · rw [if_pos e, e]; exact hxt
          · rw [if_neg e, FM_a fj (by decide)]; exact hN s (by omega)
        by_cases c2 : aG wk 77 i1 ≤ gI wk 68 8
        · rw [if_pos c2] at h
          rw [Int32.le_iff_toInt_le, ev, hM] at c2
          exact step wk 0 (Or.inl rfl) (FM_refl S1) (fun z => by omega) (h.2 _ rfl)
        · rw [if_neg c2] at h
          obtain ⟨q2, w3, y, h⟩ := h
          obtain ⟨f3, z, a1, a2⟩ := F182 S1 hLk.1 hLk.2.1 (MSK_set h1 (by omega)) y
          rw [rmW_g fm (by decide)] at a2
          have h := h _ a1 f3.2.2.2
          by_cases c3 : z = 1
          · rw [if_pos c3] at h
            exact step w3 1 (Or.inr rfl) f3 (fun _ => ⟨_, a2, fun q => absurd q (by decide)⟩) (h.2 _ rfl)
          · rw [if_neg c3] at h
            exact step w3 0 (Or.inl rfl) f3 (fun _ => ⟨_, a2, fun _ q => c3 (Int32.toInt_inj.mp (by rw [o32]; exact q))⟩) (h.2 _ rfl)
  cases k with
  | zero => exact (PS_0 h).elim
  | succ k =>
    obtain ⟨q1, w2, y, h⟩ := U188_0 hS h
    obtain ⟨f2, z, a1, a2⟩ := F174 hS hL.1 hL.2.1 hL.2.2.1 hL.2.2.2.1 z32 ⟨Int.le_refl _, by omega⟩ y
    have S2 := f2.2.2.2
    obtain ⟨_, h⟩ := h _ a1 S2
    have h := h _ rfl
    have f3 : FM [(68, 8)] [] w2 (sI w2 68 8 (aG w2 77 z)) := FM_sI S2 (by decide)
    refine lp k 0 _ 0 (FM_trans (FM_mono f2 (by intro p hp; cases hp) (by decide)) (FM_mono f3 (by decide) (by intro p hp; cases hp))) z32 (Nat.zero_le _) ?_ (fun s hs => absurd hs (Nat.not_lt_zero _)) h
    rw [gI_sI (SK_isF S2 (by decide +kernel)), aG_n a2, hMe]
    have hb := bstF_le (can := fun s => CANH (rmW w) P W A B n s 0) (bt := bet wv W) (2 ^ W - 1)
    exact (LKw_fm hL f2).2.2.2.1 _ (by omega)
theorem F189 (hS : SK w) (hL : LKw w P W A B n wv) (hR9 : ∀ i j, i < P → j < P → rmW w i j ≤ 999) (hN : NR w M (rmW w) P W A B n wv) (hM : M = vlS wv W (bstF (fun s => CANH (rmW w) P W A B n s 0) (bet wv W) (2 ^ W - 1))) (h1 : p1.toInt = a) (h2 : p2.toInt = b) (ha : a < P) (hb : b < P) (h : PS X k 189 0 [.ref 68, .int p1, .int p2, pm_dead, pm_dead] [] w r w') : FM [] [74, 75, 76, 80, 81, 82] w w' ∧ (∀ i j, i < 9 → j < 9 → rmW w' i j = rmW w i j) ∧ ∃ z : Int32, r = some (.int z) ∧ z.toInt = vlS wv W (bstF (fun s => CANH (fun i j => rmW w i j + (if i = a ∧ j = b then 1 else 0)) P W A B n s 0) (bet wv W) (2 ^ W - 1)) - M := by
  obtain ⟨v0, x1, x2, hP9, x4, hW7, x6⟩ := id hL.1
  have p128 : 2 ^ W ≤ 128 := Nat.le_trans (Nat.pow_le_pow_right (by decide) hW7) (by decide)
  have p1' : 1 ≤ 2 ^ W := Nat.one_le_two_pow
  obtain ⟨R', hR'⟩ : ∃ R' : Nat → Nat → Int, R' = fun i j => rmW w i j + (if i = a ∧ j = b then 1 else 0) := ⟨_, rfl⟩
  have eR : ∀ i j, R' i j = rmW w i j + (if i = a ∧ j = b then 1 else 0) := fun i j => by rw [hR']
  rw [← hR']
  have vb : ∀ s, 0 ≤ vlS wv W s ∧ vlS wv W s ≤ 99 * W := fun s => vlS_b hL.2.2.2.2 W (Nat.le_refl _)
  have mono : ∀ s, CANH (rmW w) P W A B n s 0 → CANH R' P W A B n s 0 := fun s => CANH_mono (fun i j _ _ => by rw [eR]; split <;> omega)
  have hb1 := bstF_le (can := fun s => CANH (rmW w) P W A B n s 0) (bt := bet wv W) (2 ^ W - 1)
  have hb2 := bstF_le (can := fun s => CANH R' P W A B n s 0) (bt := bet wv W) (2 ^ W - 1)
  have fin : ∀ y : Int, M ≤ y → (∀ s, s < 2 ^ W → CANH R' P W A B n s 0 → vlS wv W s ≤ y) → (y = M ∨ ∃ s, s < 2 ^ W ∧ CANH R' P W A B n s 0 ∧ y = vlS wv W s) → y = vlS wv W (bstF (fun s => CANH R' P W A B n s 0) (bet wv W) (2 ^ W - 1)) := by
    intro y y1 y2 y3
    have g1 : y ≤ vlS wv W (bstF (fun s => CANH R' P W A B n s 0) (bet wv W) (2 ^ W - 1)) := by
      rcases y3 with e | ⟨s, s1, s2, s3⟩
      · rw [e, hM]
        refine bst_max (can := fun s => CANH R' P W A B n s 0) (2 ^ W - 1) _ hb1 ?_
        rcases bst_can (can := fun s => CANH (rmW w) P W A B n s 0) (wv := wv) (W := W) (2 ^ W - 1) with q | q
        · exact Or.inl q
        · exact Or.inr (mono _ q)
      · rw [s3]
        exact bst_max (can := fun s => CANH R' P W A B n s 0) (2 ^ W - 1) s (by omega) (Or.inr s2)
    have g2 : vlS wv W (bstF (fun s => CANH R' P W A B n s 0) (bet wv W) (2 ^ W - 1)) ≤ y := by
      rcases bst_can (can := fun s => CANH R' P W A B n s 0) (wv := wv) (W := W) (2 ^ W - 1) with q | q
      · rw [q]
        refine Int.le_trans ?_ y1
        rw [hM]
        exact bst_max (can := fun s => CANH (rmW w) P W A B n s 0) (2 ^ W - 1) 0 (Nat.zero_le _) (Or.inl rfl)
      · exact y2 _ (by omega) q
    omega
  have lp : ∀ (k t : Nat) (w4 wk : pm_W) (i3 i4 : Int32), FM [] [74] w w4 → (∀ i j, i < 9 → j < 9 → rmW w4 i j = R' i j) → FM [] [75, 76, 80, 81, 82] w4 wk → i4.toInt = t → t ≤ 2 ^ W → M ≤ i3.toInt → (∀ s, s < t → CANH R' P W A B n s 0 → vlS wv W s ≤ i3.toInt) → (i3.toInt = M ∨ ∃ s, s < 2 ^ W ∧ CANH R' P W A B n s 0 ∧ i3.toInt = vlS wv W s) → PS X k 189 22 [.ref 68, .int p1, .int p2, .int i3, .int i4] [] wk r w' → FM [] [74, 75, 76, 80, 81, 82] w w' ∧ (∀ i j, i < 9 → j < 9 → rmW w' i j = rmW w i j) ∧ ∃ z : Int32, r = some (.int z) ∧ z.toInt = vlS wv W (bstF (fun s => CANH R' P W A B n s 0) (bet wv W) (2 ^ W - 1)) - M := by
    intro k
    induction k with
    | zero => intro t w4 wk i3 i4 _ _ _ _ _ _ _ _ h; exact (PS_0 h).elim
    | succ k ih =>
      intro t w4 wk i3 i4 f4 hr4 fk h4 ht y1 y2 y3 h
      have Sk : SK wk := fk.2.2.2
      have S4 : SK w4 := f4.2.2.2
      have fwk : FM [] [74, 75, 76, 80, 81, 82] w wk := FM_trans (FM_mono f4 (by intro p hp; cases hp) (by decide)) (FM_mono fk (by intro p hp; cases hp) (by decide))
      have hrk : ∀ i j, i < 9 → j < 9 → rmW wk i j = R' i j := fun i j hi hj => by rw [rmW_g fk (by decide)]; exact hr4 i j hi hj
      have h7 : (gI wk 68 7).toInt = ((2 ^ W : Nat) : Int) := by rw [FM_i fwk (by simp)]; exact hL.2.2.1
      have hva : ∀ s, s < 2 ^ W → vaW wk s = vlS wv W s := fun s hs => by
        rw [← hL.2.2.2.1 s hs]
        unfold vaW
        rw [FM_a fwk (by decide)]
      have h := U189_22 Sk h
      by_cases c : gI wk 68 7 ≤ i4
      · rw [if_pos c] at h
        rw [Int32.le_iff_toInt_le, h7, h4] at c
        have e : t = 2 ^ W := by omega
        rw [e] at y2
        obtain ⟨k1, hk1, h⟩ := use_z Sk h (fun _ _ t => F52n Sk h1 h2 (by omega) (by omega) t)
        obtain ⟨_, _, h⟩ := h
        obtain ⟨hr, hw⟩ := h _ rfl
        have ye := fin _ y1 y2 y3
        have f5 : FM [] [74] wk (aS wk 74 k1 (aG wk 74 k1 - 1)) := FM_aS Sk (by decide)
        rw [hw]
        refine ⟨FM_trans fwk (FM_mono f5 (by intro p hp; cases hp) (by decide)), fun i j hi hj => ?_, _, hr, ?_⟩
        · rw [rmW_s Sk (a := a) (b := b) (by omega) (by omega) hk1 i j hi hj, hrk i j hi hj, eR]
          by_cases q : i = a ∧ j = b
          · rw [if_pos q, aG_n hk1, q.1, q.2]
            have o1 : ((gA wk 74).getD (9 * a + b) 0).toInt = R' a b := hrk a b (by omega) (by omega)
            have o2 := hR9 a b ha hb
            have o3 := hL.2.1 a b ha hb
            rw [eR, if_pos ⟨rfl, rfl⟩] at o1
            rw [zi_sub o1 o32 (by omega) (by omega)]
            omega
          · rw [if_neg q, if_neg q]
            omega
        · rw [FM_i f5 (by simp), FM_i fwk (by simp)]
          have m1 := vb (bstF (fun s => CANH R' P W A B n s 0) (bet wv W) (2 ^ W - 1))
          have m2 := vb (bstF (fun s => CANH (rmW w) P W A B n s 0) (bet wv W) (2 ^ W - 1))
          rw [← hM] at m2
          rw [zi_sub ye hN.1 (by omega) (by omega)]
      · rw [if_neg c] at h
        rw [Int32.le_iff_toInt_le, h7, h4] at c
        obtain ⟨_, h⟩ := h
        have e1 : (i4 + 1).toInt = ((t + 1 : Nat) : Int) := by rw [zi_inc (n := 200) (by omega) (by omega), h4]; rfl
        have skip : ∀ wj, FM [] [75, 76, 80, 81, 82] w4 wj → (CANH R' P W A B n t 0 → vlS wv W t ≤ i3.toInt) → PS X k 189 22 [.ref 68, .int p1, .int p2, .int i3, .int (i4 + 1)] [] wj r w' → FM [] [74, 75, 76, 80, 81, 82] w w' ∧ (∀ i j, i < 9 → j < 9 → rmW w' i j = rmW w i j) ∧ ∃ z : Int32, r = some (.int z) ∧ z.toInt = vlS wv W (bstF (fun s => CANH R' P W A B n s 0) (bet wv W) (2 ^ W - 1)) - M := by
          intro wj fj hq hh
          refine ih (t + 1) w4 wj i3 _ f4 hr4 fj e1 (by omega) y1 (fun s hs hc => ?_) y3 hh
          by_cases e : s = t
          · rw [e] at hc ⊢; exact hq hc
          · exact y2 s (by omega) hc
        have ev : ∀ wj, FM [] [75, 76, 80, 81, 82] wk wj → (aG wj 77 i4).toInt = vlS wv W t := fun wj fj => by
          rw [aG_n h4, FM_a fj (by decide)]
          exact hva t (by omega)
        by_cases c2 : aG wk 78 i4 = 0
        · rw [if_pos c2] at h
          refine skip wk fk (fun hc => ?_) h
          by_cases q : M < vlS wv W t
          · obtain ⟨e, l1, l2⟩ := hN.2 t (by omega) q
            rw [aG_n h4, FM_a fwk (by decide)] at c2
            have n1 := l2 c2
            have n2 := LKS_1 ha hb hP9 hc (fun i j _ _ => eR i j) l1
            have n3 := LKS_no l1 (fun hc0 => by
              have := bst_max (can := fun s => CANH (rmW w) P W A B n s 0) (wv := wv) (W := W) (2 ^ W - 1) t (by omega) (Or.inr hc0)
              rw [← hM] at this
              omega)
            omega
          · omega
        · rw [if_neg c2] at h
          obtain ⟨_, h⟩ := h
          by_cases c3 : aG wk 77 i4 ≤ i3
          · rw [if_pos c3] at h
            rw [Int32.le_iff_toInt_le, ev wk (FM_refl Sk)] at c3
            exact skip wk fk (fun _ => c3) h
          · rw [if_neg c3] at h
            rw [Int32.le_iff_toInt_le, ev wk (FM_refl Sk)] at c3
            obtain ⟨q5, w6, y, h⟩ := h
            have hVk : WSH wk P W A B n := WSH_fm hL.1 fwk (by intro p hp; cases hp) (by decide)
            obtain ⟨f6, bb, c4, c5⟩ := F169 Sk hVk (fun i j hi hj => by
              rw [hrk i j (by omega) (by omega), eR]
              have o2 := hR9 i j hi hj
              have o3 := hL.2.1 i j hi hj
              split <;> omega) (MSK_set h4 (by omega)) z32 ⟨Int.le_refl _, by omega⟩ y
            have ec : CANH (rmW wk) P W A B n t 0 ↔ CANH R' P W A B n t 0 := CANH_cg (fun i j hi hj => hrk i j (by omega) (by omega))
            rw [ec] at c5
            have h := h _ c4 f6.2.2.2
            cases bb with
            | false =>
              rw [if_pos (by decide +kernel)] at h
              exact skip w6 (FM_trans fk f6) (fun hc => Bool.noConfusion (c5.mpr hc)) h
            | true =>
              rw [if_neg (by decide +kernel)] at h
              obtain ⟨_, h⟩ := h
              have e6 := ev w6 f6
              refine ih (t + 1) w4 w6 _ _ f4 hr4 (FM_trans fk f6) e1 (by omega) (by rw [e6]; omega) (fun s hs hc => ?_) (Or.inr ⟨t, by omega, c5.mp rfl, e6⟩) h
              rw [e6]
              by_cases e : s = t
              · rw [e]; exact Int.le_refl _
              · have := y2 s (by omega) hc
                omega
  cases k with
  | zero => exact (PS_0 h).elim
  | succ k =>
    have h := U189_0 hS h
    obtain ⟨k1, hk1, h⟩ := use_z hS h (fun _ _ t => F52n hS h1 h2 (by omega) (by omega) t)
    obtain ⟨_, _, h⟩ := h
    have h := h _ rfl
    have f4 : FM [] [74] w (aS w 74 k1 (aG w 74 k1 + 1)) := FM_aS hS (by decide)
    refine lp k 0 _ _ (gI w 68 8) 0 f4 (fun i j hi hj => ?_) (FM_refl f4.2.2.2) z32 (Nat.zero_le _) (by rw [hN.1]; exact Int.le_refl _) (fun s hs => absurd hs (Nat.not_lt_zero _)) (Or.inl hN.1) h
    rw [rmW_s hS (a := a) (b := b) (by omega) (by omega) hk1 i j hi hj, eR]
    by_cases q : i = a ∧ j = b
    · rw [if_pos q, if_pos q, aG_n hk1, q.1, q.2]
      have o1 : ((gA w 74).getD (9 * a + b) 0).toInt = rmW w a b := rfl
      have o2 := hR9 a b ha hb
      have o3 := hL.2.1 a b ha hb
      rw [zi_add o1 o32 (by omega) (by omega)]
    · rw [if_neg q, if_neg q]
      omega
end IZA
