/-! ===== the class's words ===== -/
section FF
variable {X : pm_X} {k : Nat} {w w' : pm_W} {r : Option Value} {p p1 p2 p3 : Int32} {s : Nat}
/-- a verb's letters -/
def vTx (v : Nat) : List Int32 := (xA pg_arr (21 + 2 * v))
theorem XO_A (hX : XO X) {j : Nat} (h : 1 ≤ j) : xA X j = xA pg_arr j ∧ xB X j = xB pg_arr j := by
  unfold xA xB
  rw [hX j h]
  exact ⟨rfl, rfl⟩
theorem F34 (hS : SK w) (h : PS X k 34 0 [.retAddr s] [] w r w') : r = some (.int 0) ∧ w' = w := by
  cases k with
  | zero => exact (PS_0 h).elim
  | succ k => exact U34_0 hS h
theorem F33 (hS : SK w) (h : PS X k 33 0 [.retAddr s] [] w r w') : r = some (.int ((Int32.ofNat (xA X (xB X s)).length) >>> ((0 : Int32) &&& 31))) ∧ w' = w := by
  cases k with
  | zero => exact (PS_0 h).elim
  | succ k =>
    have h := U33_0 hS h
    exact use_p hS h (fun _ _ q => F34 hS q)
theorem F36 (hS : SK w) (h : PS X k 36 0 [.retAddr s] [] w r w') : r = some (.int 1) ∧ w' = w := by
  cases k with
  | zero => exact (PS_0 h).elim
  | succ k => exact U36_0 hS h
theorem F39 {q3 : Nat} (hS : SK w) (h : PS X k 39 0 [.int p1, .int p2, .retAddr q3] [] w r w') : r = some (.int p1) ∧ w' = w := by
  cases k with
  | zero => exact (PS_0 h).elim
  | succ k =>
    have h := U39_0 hS h
    by_cases c1 : p1 < 0
    · rw [if_pos c1] at h
      exact h.elim
    · rw [if_neg c1] at h
      by_cases c2 : p1 < p2
      · rw [if_pos c2] at h
        exact h
      · rw [if_neg c2] at h
        exact h.elim
theorem F38 (hS : SK w) (h : PS X k 38 0 [.int p1, .int p2] [] w r w') : r = none ∧ w' = w := by
  cases k with
  | zero => exact (PS_0 h).elim
  | succ k => exact use_p hS (U38_0 hS h) (fun _ _ q => F39 hS q)
def chr (b : Int32) : Int32 := ((b &&& 255).toUInt32 % 65536).toInt32
theorem F37 {q1 : Nat} (hS : SK w) (h : PS X k 37 0 [.retAddr q1, .int p2] [] w r w') : iN p2 (xA X q1).length ∧ r = some (.int (chr ((xA X q1).getD p2.toNatClampNeg 0))) ∧ w' = w := by
  cases k with
  | zero => exact (PS_0 h).elim
  | succ k =>
    obtain ⟨r1, w2, h1, h2⟩ := U37_0 hS h
    obtain ⟨e, q⟩ := F38 hS h1
    subst q
    exact h2 e hS
theorem F35 (hS : SK w) (h : PS X k 35 0 [.retAddr s, .int p1] [] w r w') : iN p1 (xA X (xB X s)).length ∧ r = some (.int (chr ((xA X (xB X s)).getD p1.toNatClampNeg 0))) ∧ w' = w := by
  cases k with
  | zero => exact (PS_0 h).elim
  | succ k =>
    have h := use_p hS (U35_0 hS h) (fun _ _ q => F36 hS q)
    rw [if_neg (by decide +kernel)] at h
    obtain ⟨r1, w2, h1, h2⟩ := h
    obtain ⟨i, e, q⟩ := F37 hS h1
    subst q
    exact ⟨i, h2 _ e hS⟩
theorem F31 (hS : SK w) {v : Nat} (hv : p.toInt = v) (h12 : v ≤ 12) (h : PS X k 31 0 [.int p] [] w r w') : r = some (.retAddr (20 + 2 * v)) ∧ w' = w := by
  cases k with
  | zero => exact (PS_0 h).elim
  | succ k =>
    have h := U31_0 hS h
    have g : ∀ (q : Int32) (n : Nat), q.toInt = n → (p = q ↔ v = n) := by
      intro q n hq
      rw [← Int32.toInt_inj, hv, hq]
      omega
    by_cases c0 : p = 0
    · rw [if_pos c0] at h
      rw [(g 0 0 (by decide +kernel)).mp c0]
      exact h
    rw [if_neg c0] at h
    rw [g 0 0 (by decide +kernel)] at c0
    by_cases c1 : p = 1
    · rw [if_pos c1] at h
      rw [(g 1 1 (by decide +kernel)).mp c1]
      exact h
    rw [if_neg c1] at h
    rw [g 1 1 (by decide +kernel)] at c1
    by_cases c2 : p = 2
    · rw [if_pos c2] at h
      rw [(g 2 2 (by decide +kernel)).mp c2]
      exact h
    rw [if_neg c2] at h
    rw [g 2 2 (by decide +kernel)] at c2
    by_cases c3 : p = 3
    · rw [if_pos c3] at h
      rw [(g 3 3 (by decide +kernel)).mp c3]
      exact h
    rw [if_neg c3] at h
    rw [g 3 3 (by decide +kernel)] at c3
    by_cases c4 : p = 4
    · rw [if_pos c4] at h
      rw [(g 4 4 (by decide +kernel)).mp c4]
      exact h
    rw [if_neg c4] at h
    rw [g 4 4 (by decide +kernel)] at c4
    by_cases c5 : p = 5
    · rw [if_pos c5] at h
      rw [(g 5 5 (by decide +kernel)).mp c5]
      exact h
    rw [if_neg c5] at h
    rw [g 5 5 (by decide +kernel)] at c5
    by_cases c6 : p = 6
    · rw [if_pos c6] at h
      rw [(g 6 6 (by decide +kernel)).mp c6]
      exact h
    rw [if_neg c6] at h
    rw [g 6 6 (by decide +kernel)] at c6
    by_cases c7 : p = 7
    · rw [if_pos c7] at h
      rw [(g 7 7 (by decide +kernel)).mp c7]
      exact h
    rw [if_neg c7] at h
    rw [g 7 7 (by decide +kernel)] at c7
    by_cases c8 : p = 8
    · rw [if_pos c8] at h
      rw [(g 8 8 (by decide +kernel)).mp c8]
      exact h
    rw [if_neg c8] at h
    rw [g 8 8 (by decide +kernel)] at c8
    by_cases c9 : p = 9
    · rw [if_pos c9] at h
      rw [(g 9 9 (by decide +kernel)).mp c9]
      exact h
    rw [if_neg c9] at h
    rw [g 9 9 (by decide +kernel)] at c9
    by_cases c10 : p = 10
    · rw [if_pos c10] at h
      rw [(g 10 10 (by decide +kernel)).mp c10]
      exact h
    rw [if_neg c10] at h
    rw [g 10 10 (by decide +kernel)] at c10
    by_cases c11 : p = 11
    · rw [if_pos c11] at h
      rw [(g 11 11 (by decide +kernel)).mp c11]
      exact h
    rw [if_neg c11] at h
    rw [g 11 11 (by decide +kernel)] at c11
    rw [show v = 12 by omega]
    exact h
/-- the letters from s to e are those -/
def mtc (bs : Nat → Int32) (s e : Nat) (tx : List Int32) : Prop := e - s = tx.length ∧ ∀ i, i < tx.length → bs (s + i) = tx.getD i 0
theorem vT_len {v : Nat} (h : v ≤ 12) : (vTx v).length ≤ 6 ∧ 1 ≤ (vTx v).length ∧ (vTx v).map chr = vTx v ∧ xA pg_arr (xB pg_arr (20 + 2 * v)) = vTx v := by
  have c : v = 0 ∨ v = 1 ∨ v = 2 ∨ v = 3 ∨ v = 4 ∨ v = 5 ∨ v = 6 ∨ v = 7 ∨ v = 8 ∨ v = 9 ∨ v = 10 ∨ v = 11 ∨ v = 12 := by omega
  rcases c with rfl | rfl | rfl | rfl | rfl | rfl | rfl | rfl | rfl | rfl | rfl | rfl | rfl <;> decide +kernel
theorem i_nat {x : Int32} {n : Nat} (h : x.toInt = n) : x.toNatClampNeg = n := by
  have q : x.toNatClampNeg = x.toInt.toNat := rfl
  omega
theorem len_i {n : Nat} (h : n ≤ 6) : (Int32.ofNat n >>> ((0 : Int32) &&& 31)).toInt = n := by
  have c : n = 0 ∨ n = 1 ∨ n = 2 ∨ n = 3 ∨ n = 4 ∨ n = 5 ∨ n = 6 := by omega
  rcases c with rfl | rfl | rfl | rfl | rfl | rfl | rfl <;> decide +kernel
theorem F32_20 (hX : XO X) {v : Nat} (h12 : v ≤ 12) {s0 e0 : Nat} : ∀ (k : Nat) (w : pm_W) (i : Nat) (x : Int32), SK w → x.toInt = i → (gI w 23 7).toInt = s0 → e0 ≤ cn w → e0 - s0 = (vTx v).length → s0 ≤ e0 → i ≤ (vTx v).length → (∀ j, j < i → cb w (s0 + j) = (vTx v).getD j 0) → PS X k 32 20 [.ref 23, .retAddr (20 + 2 * v), .int x] [] w r w' → w' = w ∧ ∃ b : Bool, r = some (.int (b2i b)) ∧ (b = true ↔ mtc (cb w) s0 e0 (vTx v)) := by
  obtain ⟨l6, l1, lc, lx⟩ := vT_len h12
  have ex : xA X (xB X (20 + 2 * v)) = vTx v := by
    rw [(XO_A hX (by omega)).2]
    have q : 1 ≤ xB pg_arr (20 + 2 * v) := by
      have c : v = 0 ∨ v = 1 ∨ v = 2 ∨ v = 3 ∨ v = 4 ∨ v = 5 ∨ v = 6 ∨ v = 7 ∨ v = 8 ∨ v = 9 ∨ v = 10 ∨ v = 11 ∨ v = 12 := by omega
      rcases c with rfl | rfl | rfl | rfl | rfl | rfl | rfl | rfl | rfl | rfl | rfl | rfl | rfl <;> decide +kernel
    rw [(XO_A hX q).1]
    exact lx
  intro k
  induction k with
  | zero => intro w i x hS hx hp hn hl hse hi hm h; exact (PS_0 h).elim
  | succ k ih =>
    intro w i x hS hx hp hn hl hse hi hm h
    have h := use_p hS (U32_20 hS h) (fun _ _ q => F33 hS q)
    rw [ex] at h
    by_cases c1 : (Int32.ofNat (vTx v).length) >>> ((0 : Int32) &&& 31) ≤ x
    · rw [if_pos c1] at h
      rw [Int32.le_iff_toInt_le, len_i l6, hx] at c1
      refine ⟨h.2, true, h.1, fun _ => ⟨hl, fun j hj => hm j (by omega)⟩, fun _ => rfl⟩
    · rw [if_neg c1] at h
      rw [Int32.le_iff_toInt_le, len_i l6, hx] at c1
      have h := use_p hS h (fun _ _ q => F24 hS q)
      have hcn : (cn w : Int) = max 0 (gI w 23 4).toInt := by unfold cn; omega
      have hh := zi_hi (gI w 23 4)
      have ea : (gI w 23 7 + x).toInt = (s0 + i : Nat) := by
        rw [zi_add hp hx (by omega) (by omega)]
        omega
      rw [bAt_in (by omega) (by rw [ea]; omega), ea, Int.toNat_natCast] at h
      obtain ⟨r1, w2, h1, h2⟩ := h
      obtain ⟨hi2, e, q⟩ := F35 hS h1
      subst w2
      have h := h2 _ e hS
      rw [ex, i_nat hx] at h
      have ec : chr ((vTx v).getD i 0) = (vTx v).getD i 0 := by
        have q : ((vTx v).map chr)[i]? = (vTx v)[i]? := by rw [lc]
        rw [List.getElem?_map, List.getElem?_eq_getElem (show i < (vTx v).length by omega)] at q
        rw [List.getD_eq_getElem?_getD, List.getElem?_eq_getElem (show i < (vTx v).length by omega)]
        exact Option.some.inj q
      rw [ec] at h
      by_cases c2 : cb w (s0 + i) = (vTx v).getD i 0
      · rw [if_pos c2] at h
        refine ih w (i + 1) (x + 1) hS (by rw [zi_inc (n := 6) (by omega) (by omega), hx]; rfl) hp hn hl hse (by omega) (fun j hj => ?_) h
        by_cases e : j = i
        · rw [e]; exact c2
        · exact hm j (by omega)
      · rw [if_neg c2] at h
        refine ⟨h.2, false, h.1, fun z => (Bool.false_ne_true z).elim, fun z => absurd (z.2 i (by omega)) c2⟩
theorem F32 (hX : XO X) (hS : SK w) {v : Nat} (h12 : v ≤ 12) {s0 e0 : Nat} (hp : (gI w 23 7).toInt = s0) (ha : (gI w 23 5).toInt = e0) (hse : s0 ≤ e0) (hn : e0 ≤ cn w) (h : PS X k 32 0 [.ref 23, .retAddr (20 + 2 * v), pm_dead] [] w r w') : w' = w ∧ ∃ b : Bool, r = some (.int (b2i b)) ∧ (b = true ↔ mtc (cb w) s0 e0 (vTx v)) := by
  obtain ⟨l6, l1, lc, lx⟩ := vT_len h12
  have ex : xA X (xB X (20 + 2 * v)) = vTx v := by
    rw [(XO_A hX (by omega)).2]
    have q : 1 ≤ xB pg_arr (20 + 2 * v) := by
      have c : v = 0 ∨ v = 1 ∨ v = 2 ∨ v = 3 ∨ v = 4 ∨ v = 5 ∨ v = 6 ∨ v = 7 ∨ v = 8 ∨ v = 9 ∨ v = 10 ∨ v = 11 ∨ v = 12 := by omega
      rcases c with rfl | rfl | rfl | rfl | rfl | rfl | rfl | rfl | rfl | rfl | rfl | rfl | rfl <;> decide +kernel
    rw [(XO_A hX q).1]
    exact lx
  cases k with
  | zero => exact (PS_0 h).elim
  | succ k =>
    have h := use_p hS (U32_0 hS h) (fun _ _ q => F33 hS q)
    rw [ex] at h
    have hh := zi_hi (gI w 23 5)
    have hd : (gI w 23 5 - gI w 23 7).toInt = (e0 - s0 : Nat) := by
      rw [zi_sub ha hp (by omega) (by omega)]
      omega
    by_cases c1 : (gI w 23 5) - (gI w 23 7) = (Int32.ofNat (vTx v).length) >>> ((0 : Int32) &&& 31)
    · rw [if_pos c1] at h
      rw [← Int32.toInt_inj, hd, len_i l6] at c1
      exact F32_20 hX h12 k w 0 0 hS z32 hp hn (by omega) hse (by omega) (fun j hj => absurd hj (Nat.not_lt_zero j)) h
    · rw [if_neg c1] at h
      rw [← Int32.toInt_inj, hd, len_i l6] at c1
      refine ⟨h.2, false, h.1, fun z => (Bool.false_ne_true z).elim, fun z => absurd z.1 (by omega)⟩
/-- the first verb from v0 on, m at most, whose letters those are -/
theorem F30_36 (hX : XO X) {s0 e0 b0 : Nat} {i1 i2 i3 : Int32} (hb : i3.toInt = b0) (h13 : b0 ≤ 13) : ∀ (k : Nat) (w : pm_W) (v : Nat) (x : Int32), SK w → x.toInt = v → (gI w 23 7).toInt = s0 → (gI w 23 5).toInt = e0 → s0 ≤ e0 → e0 ≤ cn w → PS X k 30 36 [.ref 23, .int i1, .int i2, .int i3, .int x] [] w r w' → w' = w ∧ ((r = some (.int (-1)) ∧ ∀ u, v ≤ u → u < b0 → ¬ mtc (cb w) s0 e0 (vTx u)) ∨ ∃ (u : Nat) (y : Int32), r = some (.int y) ∧ y.toInt = u ∧ v ≤ u ∧ u < b0 ∧ mtc (cb w) s0 e0 (vTx u)) := by
  intro k
  induction k with
  | zero => intro w v x hS hx hp ha hse hn h; exact (PS_0 h).elim
  | succ k ih =>
    intro w v x hS hx hp ha hse hn h
    have h := U30_36 hS h
    by_cases c1 : i3 ≤ x
    · rw [if_pos c1] at h
      rw [Int32.le_iff_toInt_le, hb, hx] at c1
      exact ⟨h.2, Or.inl ⟨h.1, fun u h1 h2 => by omega⟩⟩
    · rw [if_neg c1] at h
      rw [Int32.le_iff_toInt_le, hb, hx] at c1
      obtain ⟨r1, w2, h1, h2⟩ := h
      obtain ⟨e, q⟩ := F31 hS hx (by omega) h1
      subst w2
      obtain ⟨r2, w3, h3, h4⟩ := h2 _ e hS
      obtain ⟨q, b, e2, hbm⟩ := F32 hX hS (by omega) hp ha hse hn h3
      subst w3
      have h := h4 _ e2 hS
      cases b with
      | true =>
        rw [if_neg (by decide +kernel)] at h
        exact ⟨h.2, Or.inr ⟨v, x, h.1, hx, Nat.le_refl _, by omega, hbm.mp rfl⟩⟩
      | false =>
        rw [if_pos (by decide +kernel)] at h
        have no : ¬ mtc (cb w) s0 e0 (vTx v) := fun z => Bool.false_ne_true (hbm.mpr z)
        obtain ⟨g1, g2⟩ := ih w (v + 1) (x + 1) hS (by rw [zi_inc (n := 13) (by omega) (by omega), hx]; rfl) hp ha hse hn h
        refine ⟨g1, ?_⟩
        rcases g2 with ⟨g2, g3⟩ | ⟨u, y, g2, g3, g4, g5, g6⟩
        · refine Or.inl ⟨g2, fun u h1 h2 => ?_⟩
          by_cases e : u = v
          · rw [e]; exact no
          · exact g3 u (by omega) h2
        · exact Or.inr ⟨u, y, g2, g3, by omega, g5, g6⟩
end FF
