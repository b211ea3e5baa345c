/-! ===== what is told is valid ===== -/
section GVL
variable {X : pm_X} {k k2 : Nat} {w0 w w1 w2 w' : pm_W} {r r2 : Option Value} {p p1 p2 p3 f0 p0 f q x : Int32} {bs : Nat → Int32} {n i v j m s T L u V : Nat} {b : Bool} {c : Nat → Int32} {g : Int} {a : Nat → Int32}
/-- a village's cells are valid; those who want are g at most -/
def VLv (c : Nat → Int32) (g : Int) : Prop := (2 ≤ (c 0).toInt ∧ (c 0).toInt ≤ 9) ∧ (0 ≤ (c 1).toInt ∧ (c 1).toInt ≤ 7) ∧ (0 ≤ (c 2).toInt ∧ (c 2).toInt ≤ 9) ∧ (∀ q, q < 81 → 0 ≤ (c (3 + q)).toInt ∧ (c (3 + q)).toInt ≤ 99) ∧ (∀ q, q < 9 → 0 ≤ (c (84 + q)).toInt ∧ (c (84 + q)).toInt ≤ 99) ∧ (∀ q, q < 9 → 0 ≤ (c (93 + q)).toInt ∧ (c (93 + q)).toInt ≤ 100) ∧ (∀ k, k < (c 1).toInt.toNat → 0 ≤ (c (102 + 4 * k)).toInt ∧ (c (102 + 4 * k)).toInt ≤ g ∧ 0 ≤ (c (103 + 4 * k)).toInt ∧ (c (103 + 4 * k)).toInt ≤ g ∧ (c (102 + 4 * k)).toInt ≠ (c (103 + 4 * k)).toInt ∧ 1 ≤ (c (104 + 4 * k)).toInt ∧ (c (104 + 4 * k)).toInt ≤ 99 ∧ 0 ≤ (c (105 + 4 * k)).toInt ∧ (c (105 + 4 * k)).toInt ≤ 99)
/-- an act's cells are valid -/
def VAc (y : Nat → Int32) : Prop := ((y 0 = 0 ∨ y 0 = 1) ∧ 0 ≤ (y 1).toInt ∧ (y 1).toInt ≤ 8 ∧ 0 ≤ (y 2).toInt ∧ (y 2).toInt ≤ 8 ∧ (y 1).toInt ≠ (y 2).toInt ∧ 1 ≤ (y 3).toInt ∧ (y 3).toInt ≤ 99) ∨ (y 0 = 2 ∧ 1 ≤ (y 1).toInt ∧ (y 1).toInt ≤ 99 ∧ 0 ≤ (y 2).toInt ∧ (y 2).toInt ≤ 99 ∧ ∃ m, 2 ≤ m ∧ m ≤ 6 ∧ (∀ t, t < m → 0 ≤ (y (3 + t)).toInt ∧ (y (3 + t)).toInt ≤ 8) ∧ (∀ t s, t < s → s < m → (y (3 + t)).toInt ≠ (y (3 + s)).toInt) ∧ ∀ t, m ≤ t → t < 6 → y (3 + t) = -1) ∨ (y 0 = 3 ∧ 0 ≤ (y 1).toInt ∧ (y 1).toInt ≤ 29) ∨ (y 0 = 4 ∧ 0 ≤ (y 1).toInt ∧ (y 1).toInt ≤ 8) ∨ y 0 = 5
def VLr (c : Nat → Int32) : Prop := ∀ i, i < (c 0).toInt.toNat → VAc (fun t => c (1 + 9 * i + t))
def VLD (b : Bool) (c : Nat → Int32) (g : Int) : Prop := if b = true then VLv c g else 0 ≤ (c 0).toInt ∧ (c 0).toInt ≤ 30 ∧ VLr c
theorem e8_i {t : Nat} (h : t < m) (h1 : -1000 ≤ nv bs n i t) (h2 : nv bs n i t ≤ 1000) : (e8 bs n i m t).toInt = nv bs n i t := by
  rw [e8_ns h]
  exact ns32_i (by omega) (by omega)
theorem lw_v : lwL 6 0 = 2 ∧ lwH 6 0 = 9 ∧ lwL 7 0 = 0 ∧ lwH 7 0 = 8 ∧ lwL 7 1 = 0 ∧ lwH 7 1 = 8 ∧ lwL 7 2 = 0 ∧ lwH 7 2 = 99 ∧ lwL 8 0 = 0 ∧ lwH 8 0 = 99 ∧ lwL 9 0 = 0 ∧ lwH 9 0 = 8 ∧ lwL 9 1 = 0 ∧ lwH 9 1 = 99 ∧ lwL 10 0 = 0 ∧ lwH 10 0 = 8 ∧ lwL 10 1 = 0 ∧ lwH 10 1 = 100 ∧ lwL 11 0 = 0 ∧ lwH 11 0 = 9 := by decide +kernel
theorem lw_w : lwL 12 0 = 0 ∧ lwH 12 0 = 8 ∧ lwL 12 1 = 0 ∧ lwH 12 1 = 8 ∧ lwL 12 2 = 1 ∧ lwH 12 2 = 99 ∧ lwL 12 3 = 0 ∧ lwH 12 3 = 99 := by decide +kernel
theorem lw_r : lwL 0 0 = 0 ∧ lwH 0 0 = 8 ∧ lwL 0 1 = 0 ∧ lwH 0 1 = 8 ∧ lwL 0 2 = 1 ∧ lwH 0 2 = 99 ∧ lwL 1 0 = 0 ∧ lwH 1 0 = 8 ∧ lwL 1 1 = 0 ∧ lwH 1 1 = 8 ∧ lwL 1 2 = 1 ∧ lwH 1 2 = 99 ∧ lwL 2 0 = 1 ∧ lwH 2 0 = 99 ∧ lwL 2 1 = 0 ∧ lwH 2 1 = 99 ∧ lwL 3 0 = 0 ∧ lwH 3 0 = 29 ∧ lwL 4 0 = 0 ∧ lwH 4 0 = 8 := by decide +kernel
/-- the number t of a sentence without a fault -/
theorem e8_rg (hz : (fJ bs n i v f0 p0 m).1 = 0) {t : Nat} (ht : t < m) {lo hi : Int} (hl : lwL v t = lo) (hh : lwH v t = hi) (h1 : -1000 ≤ lo) (h2 : hi ≤ 1000) : lo ≤ (e8 bs n i m t).toInt ∧ (e8 bs n i m t).toInt ≤ hi := by
  have r := fJ_rg hz ht
  rw [hl, hh] at r
  rw [e8_i ht (by omega) (by omega)]
  exact r
theorem e8_tw (hz : (fJ bs n i v f0 p0 m).1 = 0) (hm : 1 < m) (hv : v = 0 ∨ v = 1 ∨ v = 7 ∨ v = 12) : (e8 bs n i m 0).toInt ≠ (e8 bs n i m 1).toInt := by
  have nb := fJ_ok m hz 1 hm
  have r0 := fJ_rg hz (l := 0) (by omega)
  have r1 := fJ_rg hz (l := 1) hm
  have lw : lwL v 0 = 0 ∧ lwH v 0 = 8 ∧ lwL v 1 = 0 ∧ lwH v 1 = 8 := by rcases hv with rfl | rfl | rfl | rfl <;> decide +kernel
  rw [lw.1, lw.2.1] at r0
  rw [lw.2.2.1, lw.2.2.2] at r1
  rw [e8_i (by omega) (by omega) (by omega), e8_i hm (by omega) (by omega)]
  intro e
  exact nb (Or.inr (Or.inr (Or.inl ⟨hv, rfl, e.symm⟩)))
theorem VLv_cell {c' : Nat → Int32} (h : VLv c g) (h0 : 2 ≤ (c' 0).toInt ∧ (c' 0).toInt ≤ 9) (h1 : c' 1 = c 1) (h2 : 0 ≤ (c' 2).toInt ∧ (c' 2).toInt ≤ 9) (h3 : ∀ q, q < 81 → 0 ≤ (c' (3 + q)).toInt ∧ (c' (3 + q)).toInt ≤ 99) (h4 : ∀ q, q < 9 → 0 ≤ (c' (84 + q)).toInt ∧ (c' (84 + q)).toInt ≤ 99) (h5 : ∀ q, q < 9 → 0 ≤ (c' (93 + q)).toInt ∧ (c' (93 + q)).toInt ≤ 100) (h6 : ∀ q, 102 ≤ q → c' q = c q) {g' : Int} (hg : g ≤ g') : VLv c' g' := by
  obtain ⟨_, a1, _, _, _, _, a6⟩ := h
  refine ⟨h0, by rw [h1]; exact a1, h2, h3, h4, h5, fun k hk => ?_⟩
  rw [h1] at hk
  have z := a6 k hk
  rw [h6 _ (by omega), h6 _ (by omega), h6 _ (by omega), h6 _ (by omega)]
  omega
theorem VLv_step (h : VLv c g) (hv : vbT true bs n i = v) (ho : OK bs n i v m) (hz : (fD true bs n i f p c v m).1 = 0) : VLv (kS v c (e8 bs n i m)) (gS v g (e8 bs n i m)) := by
  obtain ⟨h6, h12⟩ := vbT_t hv
  have ht := (fD_0 hz).2
  have hz : (fJ bs n i v (ntF (tmC true c v) 3 f) (ntP (tmC true c v) (pl bs n i) f p) m).1 = 0 := hz
  have hm : m = dueN v := ho.2.1 (by omega)
  obtain ⟨l1, l2, l3, l4, l5, l6, l7, l8, l9, l10, l11, l12, l13, l14, l15, l16, l17, l18, l19, l20⟩ := lw_v
  obtain ⟨k1, k2, k3, k4, k5, k6, k7, k8⟩ := lw_w
  obtain ⟨e, he⟩ : ∃ e, e = e8 bs n i m := ⟨_, rfl⟩
  have hh := h
  obtain ⟨a0, a1, a2, a3, a4, a5, a6⟩ := h
  have cv : v = 6 ∨ v = 7 ∨ v = 8 ∨ v = 9 ∨ v = 10 ∨ v = 11 ∨ v = 12 := by omega
  rcases cv with rfl | rfl | rfl | rfl | rfl | rfl | rfl
  · have hm : m = 1 := hm.trans (by decide +kernel)
    have r0 := e8_rg hz (t := 0) (by omega) l1 l2 (by decide) (by decide)
    rw [← he] at r0 ⊢
    have hc : ∀ j, kS 6 c e j = if j = 0 then e 0 else c j := fun j => rfl
    refine VLv_cell hh (by rw [hc, if_pos rfl]; exact r0) (by rw [hc, if_neg (by omega)]) (by rw [hc, if_neg (by omega)]; exact a2) (fun q hq => by rw [hc, if_neg (by omega)]; exact a3 q hq) (fun q hq => by rw [hc, if_neg (by omega)]; exact a4 q hq) (fun q hq => by rw [hc, if_neg (by omega)]; exact a5 q hq) (fun q hq => by rw [hc, if_neg (by omega)]) (Int.le_refl g)
  · have hm : m = 3 := hm.trans (by decide +kernel)
    have r0 := e8_rg hz (t := 0) (by omega) l3 l4 (by decide) (by decide)
    have r1 := e8_rg hz (t := 1) (by omega) l5 l6 (by decide) (by decide)
    have r2 := e8_rg hz (t := 2) (by omega) l7 l8 (by decide) (by decide)
    rw [← he] at r0 r1 r2 ⊢
    have hc : ∀ j, kS 7 c e j = if j = 3 + (9 * (e 0).toInt.toNat + (e 1).toInt.toNat) then e 2 else c j := fun j => rfl
    refine VLv_cell hh (by rw [hc, if_neg (by omega)]; exact a0) (by rw [hc, if_neg (by omega)]) (by rw [hc, if_neg (by omega)]; exact a2) (fun q hq => ?_) (fun q hq => by rw [hc, if_neg (by omega)]; exact a4 q hq) (fun q hq => by rw [hc, if_neg (by omega)]; exact a5 q hq) (fun q hq => by rw [hc, if_neg (by omega)]) (by show g ≤ max g (max (e 0).toInt (e 1).toInt); omega)
    rw [hc]
    by_cases y : 3 + q = 3 + (9 * (e 0).toInt.toNat + (e 1).toInt.toNat)
    · rw [if_pos y]; exact r2
    · rw [if_neg y]; exact a3 q hq
  · have hm : m = 1 := hm.trans (by decide +kernel)
    have r0 := e8_rg hz (t := 0) (by omega) l9 l10 (by decide) (by decide)
    rw [← he] at r0 ⊢
    have hc : ∀ j, kS 8 c e j = if 3 ≤ j ∧ j < 84 then (if (j - 3) % 10 = 0 then 0 else e 0) else c j := fun j => rfl
    refine VLv_cell hh (by rw [hc, if_neg (by omega)]; exact a0) (by rw [hc, if_neg (by omega)]) (by rw [hc, if_neg (by omega)]; exact a2) (fun q hq => ?_) (fun q hq => by rw [hc, if_neg (by omega)]; exact a4 q hq) (fun q hq => by rw [hc, if_neg (by omega)]; exact a5 q hq) (fun q hq => by rw [hc, if_neg (by omega)]) (Int.le_refl g)
    rw [hc, if_pos (by omega)]
    by_cases y : (3 + q - 3) % 10 = 0
    · rw [if_pos y]; decide
    · rw [if_neg y]; exact r0
  · have hm : m = 2 := hm.trans (by decide +kernel)
    have r0 := e8_rg hz (t := 0) (by omega) l11 l12 (by decide) (by decide)
    have r1 := e8_rg hz (t := 1) (by omega) l13 l14 (by decide) (by decide)
    rw [← he] at r0 r1 ⊢
    have hc : ∀ j, kS 9 c e j = if j = 84 + (e 0).toInt.toNat then e 1 else c j := fun j => rfl
    refine VLv_cell hh (by rw [hc, if_neg (by omega)]; exact a0) (by rw [hc, if_neg (by omega)]) (by rw [hc, if_neg (by omega)]; exact a2) (fun q hq => by rw [hc, if_neg (by omega)]; exact a3 q hq) (fun q hq => ?_) (fun q hq => by rw [hc, if_neg (by omega)]; exact a5 q hq) (fun q hq => by rw [hc, if_neg (by omega)]) (by show g ≤ max g (e 0).toInt; omega)
    rw [hc]
    by_cases y : 84 + q = 84 + (e 0).toInt.toNat
    · rw [if_pos y]; exact r1
    · rw [if_neg y]; exact a4 q hq
  · have hm : m = 2 := hm.trans (by decide +kernel)
    have r0 := e8_rg hz (t := 0) (by omega) l15 l16 (by decide) (by decide)
    have r1 := e8_rg hz (t := 1) (by omega) l17 l18 (by decide) (by decide)
    rw [← he] at r0 r1 ⊢
    have hc : ∀ j, kS 10 c e j = if j = 93 + (e 0).toInt.toNat then e 1 else c j := fun j => rfl
    refine VLv_cell hh (by rw [hc, if_neg (by omega)]; exact a0) (by rw [hc, if_neg (by omega)]) (by rw [hc, if_neg (by omega)]; exact a2) (fun q hq => by rw [hc, if_neg (by omega)]; exact a3 q hq) (fun q hq => by rw [hc, if_neg (by omega)]; exact a4 q hq) (fun q hq => ?_) (fun q hq => by rw [hc, if_neg (by omega)]) (by show g ≤ max g (e 0).toInt; omega)
    rw [hc]
    by_cases y : 93 + q = 93 + (e 0).toInt.toNat
    · rw [if_pos y]; exact r1
    · rw [if_neg y]; exact a5 q hq
  · have hm : m = 1 := hm.trans (by decide +kernel)
    have r0 := e8_rg hz (t := 0) (by omega) l19 l20 (by decide) (by decide)
    rw [← he] at r0 ⊢
    have hc : ∀ j, kS 11 c e j = if j = 2 then e 0 else c j := fun j => rfl
    refine VLv_cell hh (by rw [hc, if_neg (by omega)]; exact a0) (by rw [hc, if_neg (by omega)]) (by rw [hc, if_pos rfl]; exact r0) (fun q hq => by rw [hc, if_neg (by omega)]; exact a3 q hq) (fun q hq => by rw [hc, if_neg (by omega)]; exact a4 q hq) (fun q hq => by rw [hc, if_neg (by omega)]; exact a5 q hq) (fun q hq => by rw [hc, if_neg (by omega)]) (Int.le_refl g)
  · have hm : m = 4 := hm.trans (by decide +kernel)
    have r0 := e8_rg hz (t := 0) (by omega) k1 k2 (by decide) (by decide)
    have r1 := e8_rg hz (t := 1) (by omega) k3 k4 (by decide) (by decide)
    have r2 := e8_rg hz (t := 2) (by omega) k5 k6 (by decide) (by decide)
    have r3 := e8_rg hz (t := 3) (by omega) k7 k8 (by decide) (by decide)
    have tw := e8_tw hz (by omega) (Or.inr (Or.inr (Or.inr rfl)))
    rw [← he] at r0 r1 r2 r3 tw ⊢
    have ht : (if (12 : Nat) = 12 then decide (7 ≤ (c 1).toInt) else false) = false := ht
    rw [if_pos rfl] at ht
    have ht := of_decide_eq_false ht
    obtain ⟨W, hW⟩ : ∃ W, W = (c 1).toInt.toNat := ⟨_, rfl⟩
    have hc : ∀ j, kS 12 c e j = if j = 1 then c 1 + 1 else if 102 + 4 * W ≤ j ∧ j < 106 + 4 * W then e (j - (102 + 4 * W)) else c j := fun j => by rw [hW]; rfl
    have e1 : (c 1 + 1).toInt = (c 1).toInt + 1 := zi_add rfl o32 (by omega) (by omega)
    have eg : gS 12 g e = max g (max (e 0).toInt (e 1).toInt) := rfl
    rw [eg]
    refine ⟨by rw [hc, if_neg (by omega), if_neg (by omega)]; exact a0, by rw [hc, if_pos rfl, e1]; omega, by rw [hc, if_neg (by omega), if_neg (by omega)]; exact a2, fun q hq => by rw [hc, if_neg (by omega), if_neg (by omega)]; exact a3 q hq, fun q hq => by rw [hc, if_neg (by omega), if_neg (by omega)]; exact a4 q hq, fun q hq => by rw [hc, if_neg (by omega), if_neg (by omega)]; exact a5 q hq, fun k hk => ?_⟩
    rw [hc 1, if_pos rfl, e1] at hk
    by_cases y : k = W
    · subst y
      rw [hc, if_neg (by omega), if_pos (by omega), hc, if_neg (by omega), if_pos (by omega), hc, if_neg (by omega), if_pos (by omega), hc, if_neg (by omega), if_pos (by omega), show 102 + 4 * k - (102 + 4 * k) = 0 by omega, show 103 + 4 * k - (102 + 4 * k) = 1 by omega, show 104 + 4 * k - (102 + 4 * k) = 2 by omega, show 105 + 4 * k - (102 + 4 * k) = 3 by omega]
      omega
    · have z := a6 k (by omega)
      rw [hc, if_neg (by omega), if_neg (by omega), hc, if_neg (by omega), if_neg (by omega), hc, if_neg (by omega), if_neg (by omega), hc, if_neg (by omega), if_neg (by omega)]
      omega
theorem VLr_step (hr : 0 ≤ (c 0).toInt ∧ (c 0).toInt ≤ 30 ∧ VLr c) (hv : vbT false bs n i = v) (ho : OK bs n i v m) (hz : (fD false bs n i f p c v m).1 = 0) : 0 ≤ (rowR c (Int32.ofNat v) (e8 bs n i m) 0).toInt ∧ (rowR c (Int32.ofNat v) (e8 bs n i m) 0).toInt ≤ 30 ∧ VLr (rowR c (Int32.ofNat v) (e8 bs n i m)) := by
  have h5 := vbT_f hv
  have ht := (fD_0 hz).2
  have ht : decide (30 ≤ (c 0).toInt) = false := ht
  have ht := of_decide_eq_false ht
  have hz : (fJ bs n i v (ntF (tmC false c v) 3 f) (ntP (tmC false c v) (pl bs n i) f p) m).1 = 0 := hz
  obtain ⟨l1, l2, l3, l4, l5, l6, l7, l8, l9, l10, l11, l12, l13, l14, l15, l16, l17, l18, l19, l20⟩ := lw_r
  obtain ⟨e, he⟩ : ∃ e, e = e8 bs n i m := ⟨_, rfl⟩
  obtain ⟨c0, c30, hr⟩ := hr
  have m8 := fJ_8 m hz
  have e0 : rowR c (Int32.ofNat v) e 0 = c 0 + 1 := by unfold rowR; rw [if_pos rfl]
  have e1 : (c 0 + 1).toInt = (c 0).toInt + 1 := zi_add rfl o32 (by omega) (by omega)
  rw [← he, e0, e1]
  refine ⟨by omega, by omega, fun k hk => ?_⟩
  rw [e0, e1] at hk
  obtain ⟨a, ha⟩ : ∃ a, a = (c 0).toInt.toNat := ⟨_, rfl⟩
  by_cases y : k = a
  · -- the new act
    subst y
    have cell : ∀ t, t < 9 → rowR c (Int32.ofNat v) e (1 + 9 * k + t) = if t = 0 then Int32.ofNat v else e (t - 1) := by
      intro t ht9
      unfold rowR
      rw [← ha, if_neg (by omega)]
      by_cases t0 : t = 0
      · rw [if_pos (by omega), if_pos t0]
      · rw [if_neg (by omega), if_pos (by omega), if_neg t0, show 1 + 9 * k + t - (2 + 9 * k) = t - 1 by omega]
    have c0' : rowR c (Int32.ofNat v) e (1 + 9 * k + 0) = Int32.ofNat v := by rw [cell 0 (by decide), if_pos rfl]
    have c1' : rowR c (Int32.ofNat v) e (1 + 9 * k + 1) = e 0 := by rw [cell 1 (by decide), if_neg (by decide)]
    have c2' : rowR c (Int32.ofNat v) e (1 + 9 * k + 2) = e 1 := by rw [cell 2 (by decide), if_neg (by decide)]
    have c3' : rowR c (Int32.ofNat v) e (1 + 9 * k + 3) = e 2 := by rw [cell 3 (by decide), if_neg (by decide)]
    unfold VAc
    dsimp only
    rw [c0', c1', c2', c3']
    have cv : v = 0 ∨ v = 1 ∨ v = 2 ∨ v = 3 ∨ v = 4 ∨ v = 5 := by omega
    rcases cv with rfl | rfl | rfl | rfl | rfl | rfl
    · have hm : m = 3 := (ho.2.1 (by decide)).trans (by decide +kernel)
      have r0 := e8_rg hz (t := 0) (by omega) l1 l2 (by decide) (by decide)
      have r1 := e8_rg hz (t := 1) (by omega) l3 l4 (by decide) (by decide)
      have r2 := e8_rg hz (t := 2) (by omega) l5 l6 (by decide) (by decide)
      have tw := e8_tw hz (by omega) (Or.inl rfl)
      rw [← he] at r0 r1 r2 tw
      exact Or.inl ⟨Or.inl rfl, r0.1, r0.2, r1.1, r1.2, tw, r2.1, r2.2⟩
    · have hm : m = 3 := (ho.2.1 (by decide)).trans (by decide +kernel)
      have r0 := e8_rg hz (t := 0) (by omega) l7 l8 (by decide) (by decide)
      have r1 := e8_rg hz (t := 1) (by omega) l9 l10 (by decide) (by decide)
      have r2 := e8_rg hz (t := 2) (by omega) l11 l12 (by decide) (by decide)
      have tw := e8_tw hz (by omega) (Or.inr (Or.inl rfl))
      rw [← he] at r0 r1 r2 tw
      exact Or.inl ⟨Or.inr rfl, r0.1, r0.2, r1.1, r1.2, tw, r2.1, r2.2⟩
    · have hm4 : 4 ≤ m := ho.2.2.1 rfl
      have r0 := e8_rg hz (t := 0) (by omega) l13 l14 (by decide) (by decide)
      have r1 := e8_rg hz (t := 1) (by omega) l15 l16 (by decide) (by decide)
      rw [← he] at r0 r1
      have rt : ∀ t, 2 ≤ t → t < m → 0 ≤ nv bs n i t ∧ nv bs n i t ≤ 8 := by
        intro t t2 tm
        have r := fJ_rg hz tm
        rw [(ring_lw t2).1, (ring_lw t2).2] at r
        exact r
      have et : ∀ t, t < m - 2 → (rowR c (Int32.ofNat 2) e (1 + 9 * k + (3 + t))).toInt = nv bs n i (2 + t) := by
        intro t htm
        have r := rt (2 + t) (by omega) (by omega)
        rw [cell (3 + t) (by omega), if_neg (by omega), show 3 + t - 1 = 2 + t by omega, he, e8_i (by omega) (by omega) (by omega)]
      refine Or.inr (Or.inl ⟨rfl, r0.1, r0.2, r1.1, r1.2, m - 2, by omega, by omega, fun t htm => ?_, fun t s hts hsm => ?_, fun t htm ht6 => ?_⟩)
      · rw [et t htm]
        exact rt (2 + t) (by omega) (by omega)
      · rw [et t (by omega), et s hsm]
        intro q
        exact fJ_ok m hz (2 + s) (by omega) (Or.inr (Or.inr (Or.inr ⟨rfl, 2 + t, by omega, by omega, by omega, q.symm⟩)))
      · rw [cell (3 + t) (by omega), if_neg (by omega), show 3 + t - 1 = 2 + t by omega, he]
        unfold e8
        rw [if_neg (by omega)]
    · have hm : m = 1 := (ho.2.1 (by decide)).trans (by decide +kernel)
      have r0 := e8_rg hz (t := 0) (by omega) l17 l18 (by decide) (by decide)
      rw [← he] at r0
      exact Or.inr (Or.inr (Or.inl ⟨rfl, r0.1, r0.2⟩))
    · have hm : m = 1 := (ho.2.1 (by decide)).trans (by decide +kernel)
      have r0 := e8_rg hz (t := 0) (by omega) l19 l20 (by decide) (by decide)
      rw [← he] at r0
      exact Or.inr (Or.inr (Or.inr (Or.inl ⟨rfl, r0.1, r0.2⟩)))
    · exact Or.inr (Or.inr (Or.inr (Or.inr rfl)))
  · have cell : ∀ t, t < 9 → rowR c (Int32.ofNat v) e (1 + 9 * k + t) = c (1 + 9 * k + t) := by
      intro t ht9
      unfold rowR
      rw [← ha, if_neg (by omega), if_neg (by omega), if_neg (by omega)]
    have z := hr k (by omega)
    unfold VAc at z ⊢
    dsimp only
    rw [cell 0 (by decide), cell 1 (by decide), cell 2 (by decide), cell 3 (by decide)]
    rcases z with z | ⟨z1, z2, z3, z4, z5, m', z6, z7, z8, z9, z10⟩ | z | z | z
    · exact Or.inl z
    · refine Or.inr (Or.inl ⟨z1, z2, z3, z4, z5, m', z6, z7, fun t ht => ?_, fun t s hts hsm => ?_, fun t h1 h2 => ?_⟩)
      · rw [cell _ (by omega)]; exact z8 t ht
      · rw [cell _ (by omega), cell _ (by omega)]; exact z9 t s hts hsm
      · rw [cell _ (by omega)]; exact z10 t h1 h2
    · exact Or.inr (Or.inr (Or.inl z))
    · exact Or.inr (Or.inr (Or.inr (Or.inl z)))
    · exact Or.inr (Or.inr (Or.inr (Or.inr z)))
theorem RD_VLD : ∀ (N : Nat) {i : Nat} {f p : Int32} {c : Nat → Int32} {g : Int} {o : OC}, RDq b bs n N i f p c g o → (f = 0 → VLD b c g) → o.2.1 = 0 → VLD b o.2.2.2.1 o.2.2.2.2
  | 0, _, _, _, _, _, _, q, _, _ => q.elim
  | N + 1, i, f, p, c, g, o, q, hp, ho => by
    rcases q with ⟨h1, e⟩ | ⟨h1, h2, e⟩ | ⟨v, m, h1, h2, e⟩ | ⟨v, m, h1, h2, h3⟩
    · rw [e] at ho ⊢
      exact hp ho
    · rw [e] at ho
      exact absurd (show (1 : Int32) = 0 from ho) (by decide +kernel)
    · rw [e] at ho
      exact absurd (show (1 : Int32) = 0 from ho) (by decide +kernel)
    · refine RD_VLD N h3 (fun hz => ?_) ho
      have hv := hp (fD_0 hz).1
      unfold cD gD
      rw [if_pos hz, if_pos hz]
      unfold VLD at hv ⊢
      cases b with
      | true =>
        rw [if_pos rfl] at hv ⊢
        exact VLv_step hv h1 h2 hz
      | false =>
        rw [if_neg Bool.false_ne_true] at hv ⊢
        exact VLr_step hv h1 h2 hz
theorem VLD_0 : VLD b (i0 b) 0 := by
  unfold VLD
  cases b with
  | true =>
    rw [if_pos rfl]
    have e : ∀ q, q ≠ 0 → i0 true q = 0 := fun q hq => if_neg hq
    refine ⟨by decide +kernel, by decide +kernel, by decide +kernel, fun q _ => ?_, fun q _ => ?_, fun q _ => ?_, fun k hk => ?_⟩
    · rw [e _ (by omega)]; decide
    · rw [e _ (by omega)]; decide
    · rw [e _ (by omega)]; decide
    · rw [e 1 (by decide)] at hk
      exact absurd hk (by show ¬ k < 0; omega)
  | false =>
    rw [if_neg Bool.false_ne_true]
    exact ⟨by decide +kernel, by decide +kernel, fun i hi => absurd hi (by show ¬ i < 0; omega)⟩
/-- all that is told is valid -/
def VAa (a : Nat → Int32) : Prop := (∀ u, u < (a 0).toInt.toNat → ∃ g : Int, g < (a (610 + 132 * u)).toInt ∧ VLv (fun k => a (610 + 132 * u + k)) g) ∧ ∀ u, u < (a 1).toInt.toNat → VLr (fun k => a (874 + 272 * u + k))
theorem VLv_cg {c c' : Nat → Int32} (h : VLv c g) (e : ∀ k, k < 130 → c' k = c k) : VLv c' g := by
  obtain ⟨a0, a1, a2, a3, a4, a5, a6⟩ := h
  have e1 := e 1 (by decide)
  refine ⟨by rw [e 0 (by decide)]; exact a0, by rw [e1]; exact a1, by rw [e 2 (by decide)]; exact a2, fun q hq => by rw [e _ (by omega)]; exact a3 q hq, fun q hq => by rw [e _ (by omega)]; exact a4 q hq, fun q hq => by rw [e _ (by omega)]; exact a5 q hq, fun k hk => ?_⟩
  rw [e1] at hk
  rw [e _ (by omega), e _ (by omega), e _ (by omega), e _ (by omega)]
  exact a6 k hk
theorem VAc_cg {y y' : Nat → Int32} (h : VAc y) (e : ∀ t, t < 9 → y' t = y t) : VAc y' := by
  unfold VAc at h ⊢
  rw [e 0 (by decide), e 1 (by decide), e 2 (by decide), e 3 (by decide)]
  rcases h with z | ⟨z1, z2, z3, z4, z5, m', z6, z7, z8, z9, z10⟩ | z | z | z
  · exact Or.inl z
  · refine Or.inr (Or.inl ⟨z1, z2, z3, z4, z5, m', z6, z7, fun t ht => ?_, fun t s hts hsm => ?_, fun t h1 h2 => ?_⟩)
    · rw [e _ (by omega)]; exact z8 t ht
    · rw [e _ (by omega), e _ (by omega)]; exact z9 t s hts hsm
    · rw [e _ (by omega)]; exact z10 t h1 h2
  · exact Or.inr (Or.inr (Or.inl z))
  · exact Or.inr (Or.inr (Or.inr (Or.inl z)))
  · exact Or.inr (Or.inr (Or.inr (Or.inr z)))
theorem VLr_cg {c c' : Nat → Int32} (h : VLr c) (h30 : (c 0).toInt ≤ 30) (e : ∀ k, k < 272 → c' k = c k) : VLr c' := by
  intro i hi
  rw [e 0 (by decide)] at hi
  exact VAc_cg (h i hi) (fun t ht => e _ (by omega))
theorem VAa_cg {a a' : Nat → Int32} (h : VAa a) (hr : RA a) (e : ∀ q, q < 1690 → q = 0 ∨ q = 1 ∨ 610 ≤ q → a' q = a q) : VAa a' := by
  obtain ⟨h1, h2⟩ := h
  obtain ⟨r1, r2, r3, r4, r5, r6, r7⟩ := hr
  have e0 := e 0 (by decide) (by decide)
  have e1 := e 1 (by decide) (by decide)
  refine ⟨fun u hu => ?_, fun u hu => ?_⟩
  · rw [e0] at hu
    obtain ⟨g, g1, g2⟩ := h1 u hu
    exact ⟨g, by rw [e _ (by omega) (by omega)]; exact g1, VLv_cg g2 (fun k hk => e _ (by omega) (by omega))⟩
  · rw [e1] at hu
    exact VLr_cg (h2 u hu) (by have := (r7 u hu).2; exact this) (fun k hk => e _ (by omega) (by omega))
/-- a text keeps what is told valid -/
theorem VA_text {κ s0 : Nat} {C : Nat → Int32} {cnt cnt' : Int32} {G : Int} {a' : Nat → Int32} (h : VAa a) (hr : RA a) (hC : VLD b C G) (hG : b = true → G < (C 0).toInt) (hs : (b = true ∧ s0 = 0 ∧ κ ≤ 1) ∨ (b = false ∧ s0 = 1 ∧ κ ≤ 2)) (hcnt : cnt = a s0) (hc2 : cnt'.toInt ≤ max cnt.toInt (κ + 1)) (hc3 : cnt'.toInt ≤ s0 + 2) (hal : ∀ q, a' q = tlN b κ C a cnt' s0 q) (hkc : (κ : Int) ≤ cnt.toInt) : VAa a' := by
  obtain ⟨h1, h2⟩ := h
  obtain ⟨r1, r2, r3, r4, r5, r6, r7⟩ := hr
  rcases hs with ⟨rfl, rfl, hk⟩ | ⟨rfl, rfl, hk⟩
  · have hal : ∀ q, a' q = if q = 2 then 0 else if q = 3 then 0 else if q = 4 then -1 else if q = 0 then cnt' else if 610 + 132 * κ ≤ q ∧ q < 610 + 132 * κ + 132 then C (q - (610 + 132 * κ)) else a q := hal
    have lo : ∀ q, q ≠ 2 → q ≠ 3 → q ≠ 4 → q ≠ 0 → ¬ (610 + 132 * κ ≤ q ∧ q < 610 + 132 * κ + 132) → a' q = a q := fun q h2 h3 h4 h0 hx => by rw [hal, if_neg h2, if_neg h3, if_neg h4, if_neg h0, if_neg hx]
    have eK : ∀ x, x < 132 → a' (610 + 132 * κ + x) = C x := fun x hx => by
      rw [hal, if_neg (by omega), if_neg (by omega), if_neg (by omega), if_neg (by omega), if_pos (by omega), show 610 + 132 * κ + x - (610 + 132 * κ) = x by omega]
    have e0 : a' 0 = cnt' := by rw [hal]; rfl
    have e1 : a' 1 = a 1 := lo 1 (by decide) (by decide) (by decide) (by decide) (by omega)
    unfold VLD at hC
    rw [if_pos rfl] at hC
    refine ⟨fun u hu => ?_, fun u hu => ?_⟩
    · rw [e0] at hu
      by_cases y : u = κ
      · subst y
        refine ⟨G, ?_, VLv_cg hC (fun k hk => eK k (by omega))⟩
        have z := eK 0 (by decide)
        rw [Nat.add_zero] at z
        rw [z]
        exact hG rfl
      · rw [hcnt] at hc2 hkc
        obtain ⟨g, g1, g2⟩ := h1 u (by omega)
        exact ⟨g, by rw [lo _ (by omega) (by omega) (by omega) (by omega) (by omega)]; exact g1, VLv_cg g2 (fun k hk => lo _ (by omega) (by omega) (by omega) (by omega) (by omega))⟩
    · rw [e1] at hu
      exact VLr_cg (h2 u hu) (r7 u hu).2 (fun k hk => lo _ (by omega) (by omega) (by omega) (by omega) (by omega))
  · have hal : ∀ q, a' q = if q = 2 then 0 else if q = 3 then 0 else if q = 4 then -1 else if q = 1 then cnt' else if 874 + 272 * κ ≤ q ∧ q < 874 + 272 * κ + 272 then C (q - (874 + 272 * κ)) else a q := hal
    have lo : ∀ q, q ≠ 2 → q ≠ 3 → q ≠ 4 → q ≠ 1 → ¬ (874 + 272 * κ ≤ q ∧ q < 874 + 272 * κ + 272) → a' q = a q := fun q h2 h3 h4 h0 hx => by rw [hal, if_neg h2, if_neg h3, if_neg h4, if_neg h0, if_neg hx]
    have eK : ∀ x, x < 272 → a' (874 + 272 * κ + x) = C x := fun x hx => by
      rw [hal, if_neg (by omega), if_neg (by omega), if_neg (by omega), if_neg (by omega), if_pos (by omega), show 874 + 272 * κ + x - (874 + 272 * κ) = x by omega]
    have e1 : a' 1 = cnt' := by rw [hal]; rfl
    have e0 : a' 0 = a 0 := lo 0 (by decide) (by decide) (by decide) (by decide) (by omega)
    unfold VLD at hC
    rw [if_neg Bool.false_ne_true] at hC
    refine ⟨fun u hu => ?_, fun u hu => ?_⟩
    · rw [e0] at hu
      obtain ⟨g, g1, g2⟩ := h1 u hu
      exact ⟨g, by rw [lo _ (by omega) (by omega) (by omega) (by omega) (by omega)]; exact g1, VLv_cg g2 (fun k hk => lo _ (by omega) (by omega) (by omega) (by omega) (by omega))⟩
    · rw [e1] at hu
      by_cases y : u = κ
      · subst y
        exact VLr_cg hC.2.2 hC.2.1 (fun k hk => eK k hk)
      · rw [hcnt] at hc2 hkc
        exact VLr_cg (h2 u (by omega)) (r7 u (by omega)).2 (fun k hk => lo _ (by omega) (by omega) (by omega) (by omega) (by omega))
end GVL
