/-! ===== feed and end ===== -/
section GS
variable {X : pm_X} {k k2 : Nat} {w0 w w1 w2 w' : pm_W} {r r2 : Option Value} {p p1 p2 p3 p4 p5 f0 p0 f q x : Int32} {n i v j m a s T L : Nat}
theorem and255 (y : Int32) : (y &&& 255).toInt = y.toInt % 256 := by
  have h1 : (y &&& 255).toBitVec.toNat = y.toBitVec.toNat % 256 := by
    show (y.toBitVec &&& 255#32).toNat = _
    rw [BitVec.toNat_and]
    exact Nat.and_two_pow_sub_one_eq_mod y.toBitVec.toNat 8
  have h2 : (y &&& 255).toInt = (y &&& 255).toBitVec.toInt := rfl
  have h3 : y.toInt = y.toBitVec.toInt := rfl
  rw [h2, h3, BitVec.toInt_eq_toNat_cond, BitVec.toInt_eq_toNat_cond, h1]
  have h4 := y.toBitVec.isLt
  have h5 : (2 ^ 32 : Nat) = 4294967296 := by decide
  rw [h5] at h4 ⊢
  split <;> split <;> omega
theorem nbF (v : Int32) : vp_nar .byte v = v.toInt8.toInt32 := rfl
theorem i8_i (y : Int32) : y.toInt8.toInt32.toInt = if y.toInt % 256 < 128 then y.toInt % 256 else y.toInt % 256 - 256 := by
  rw [Int8.toInt_toInt32, Int32.toInt_toInt8, Int.bmod_def]
  have e : ((2 ^ 8 : Nat) : Int) = 256 := by decide
  rw [e]
  have e2 : ((256 : Int) + 1) / 2 = 128 := by decide
  rw [e2]
theorem BY_y (y : Int32) : BY (vp_nar .byte (y.toInt8.toInt32)) (y &&& 255) := by
  have e : (vp_nar .byte (y.toInt8.toInt32)).toInt = if y.toInt % 256 < 128 then y.toInt % 256 else y.toInt % 256 - 256 := by
    rw [nbF, i8_i, i8_i]
    split
    · split <;> omega
    · split <;> omega
  unfold BY
  rw [e, and255]
  split
  · refine ⟨by omega, by omega, ?_⟩
    rw [if_neg (by omega)]
  · refine ⟨by omega, by omega, ?_⟩
    rw [if_pos (by omega)]
    omega
theorem SK_T (hS : SK w) : gT w a = gT sk0 a := by
  unfold gT
  cases hw : w[a]? with
  | none =>
    have e : sk0[a]? = none := by rw [← show w.map sk_e = sk0 from hS, List.getElem?_map, hw]; rfl
    rw [e]
  | some q =>
    rw [SK_at hS hw]
    cases q with
    | inr q => rfl
    | inl q =>
      obtain ⟨t, q⟩ := q
      rcases q with q | q | q <;> rfl
def shI (m : Nat) : Int32 := Int32.ofNat (24 - 8 * m)
def bC (x : Int32) (m : Nat) : Int32 := vp_nar .byte ((x >>> (shI m &&& 31)).toInt8.toInt32)
def bR (x : Int32) (m : Nat) : Int32 := (x >>> (shI m &&& 31)) &&& 255
theorem BY_b : BY (bC x m) (bR x m) := BY_y _
theorem F14_s {i2 : Int32} (hS : SK w) (hL : (gI w 1 5).toInt = L) (h6 : L < 600) (hm : m < 4) (hs : i2 = shI m) (h : PS X k 14 3 [.ref 1, .int x, .int i2] [] w r w') : ∃ (k' : Nat) (w1 : pm_W), FM [(1, 5)] [4] w w1 ∧ (gI w1 1 5).toInt = (L + 1 : Nat) ∧ (∀ j, (gA w1 4).getD j 0 = if j = L then bC x m else (gA w 4).getD j 0) ∧ PS X k' 14 3 [.ref 1, .int x, .int (i2 + (-8))] [] w1 r w' := by
  have cm : m = 0 ∨ m = 1 ∨ m = 2 ∨ m = 3 := by omega
  have sp : ¬ shI m < 0 := by rcases cm with rfl | rfl | rfl | rfl <;> decide +kernel
  cases k with
  | zero => exact (PS_0 h).elim
  | succ k =>
    have h := U14_3 hS h
    rw [hs, if_neg sp, if_neg (by rw [Int32.le_iff_toInt_le, show (600 : Int32).toInt = 600 from by decide +kernel]; omega)] at h
    have r4 : gR w 1 4 = 4 := sk_fix hS (by decide +kernel) (by decide)
    rw [r4] at h
    obtain ⟨hI, h⟩ := h
    have h := h _ rfl _ rfl
    obtain ⟨w1, e1⟩ : ∃ w1, w1 = aB w 4 (gI w 1 5) ((x >>> (shI m &&& 31)).toInt8.toInt32) := ⟨_, rfl⟩
    rw [← e1] at h
    have e1' : w1 = aS w 4 (gI w 1 5) (bC x m) := by
      rw [e1]
      unfold aB
      rw [show gT w 4 = 1 from by rw [SK_T hS]; decide +kernel]
      rfl
    have f1 : FM [(1, 5)] [4] w w1 := by rw [e1']; exact FM_aS hS (by decide)
    have S1 := f1.2.2.2
    have g5 : gI w1 1 5 = gI w 1 5 := by rw [e1', gI_aS]
    rw [g5] at h
    refine ⟨k, sI w1 1 5 (gI w 1 5 + 1), FM_trans f1 (FM_sI S1 (by decide)), ?_, fun j => ?_, by rw [hs]; exact h⟩
    · rw [gI_sI (SK_isF S1 (by decide +kernel)), zi_add hL o32 (by omega) (by omega)]
      rfl
    · rw [gA_sI, e1', gA_aS (SK_isA hS (by decide +kernel)), i_nat hL, getD_set (by rw [SK_len hS (a := 4) (n := 600) (by decide +kernel) (by decide)]; exact h6)]
theorem F14 (hS : SK w) (hL : (gI w 1 5).toInt = L) (h6 : L + 4 ≤ 600) (h : PS X k 14 0 [.ref 1, .int x, pm_dead] [] w r w') : r = none ∧ FM [(1, 5)] [4] w w' ∧ (gI w' 1 5).toInt = (L + 4 : Nat) ∧ ∀ j, (gA w' 4).getD j 0 = if L ≤ j ∧ j < L + 4 then bC x (j - L) else (gA w 4).getD j 0 := by
  cases k with
  | zero => exact (PS_0 h).elim
  | succ k =>
    have h := U14_0 hS h
    obtain ⟨k1, w1, a1, a2, a3, h⟩ := F14_s (m := 0) hS hL (by omega) (by decide) (by decide +kernel) h
    obtain ⟨k2, w2, b1, b2, b3, h⟩ := F14_s (m := 1) a1.2.2.2 a2 (by omega) (by decide) (by decide +kernel) h
    obtain ⟨k3, w3, c1, c2, c3, h⟩ := F14_s (m := 2) b1.2.2.2 b2 (by omega) (by decide) (by decide +kernel) h
    obtain ⟨k4, w4, d1, d2, d3, h⟩ := F14_s (m := 3) c1.2.2.2 c2 (by omega) (by decide) (by decide +kernel) h
    cases k4 with
    | zero => exact (PS_0 h).elim
    | succ k4 =>
      have h := U14_3 d1.2.2.2 h
      rw [if_pos (by decide +kernel)] at h
      rw [h.2]
      refine ⟨h.1, FM_trans a1 (FM_trans b1 (FM_trans c1 d1)), d2, fun j => ?_⟩
      rw [d3, c3, b3, a3]
      by_cases z3 : j = L + 1 + 1 + 1
      · rw [if_pos z3, if_pos (by omega), z3, show L + 1 + 1 + 1 - L = 3 by omega]
      rw [if_neg z3]
      by_cases z2 : j = L + 1 + 1
      · rw [if_pos z2, if_pos (by omega), z2, show L + 1 + 1 - L = 2 by omega]
      rw [if_neg z2]
      by_cases z1 : j = L + 1
      · rw [if_pos z1, if_pos (by omega), z1, show L + 1 - L = 1 by omega]
      rw [if_neg z1]
      by_cases z0 : j = L
      · rw [if_pos z0, if_pos (by omega), z0, Nat.sub_self]
      rw [if_neg z0, if_neg (by omega)]
def n5 (p1 p2 p3 p4 p5 : Int32) (t : Nat) : Int32 := if t < 4 then p1 else if t < 8 then p2 else if t < 12 then p3 else if t < 16 then p4 else p5
theorem F13 (hS : SK w) (hL : (gI w 1 5).toInt = L) (h60 : L ≤ 600) (h : PS X k 13 0 [.ref 0, .int p1, .int p2, .int p3, .int p4, .int p5] [] w r w') : FM [(1, 5)] [4] w w' ∧ ((600 < L + 20 ∧ r = some (.int (-1)) ∧ w' = w) ∨ (L + 20 ≤ 600 ∧ r = some (.int (gI w' 1 5)) ∧ (gI w' 1 5).toInt = (L + 20 : Nat) ∧ ∀ j, (gA w' 4).getD j 0 = if L ≤ j ∧ j < L + 20 then bC (n5 p1 p2 p3 p4 p5 (j - L)) ((j - L) % 4) else (gA w 4).getD j 0)) := by
  cases k with
  | zero => exact (PS_0 h).elim
  | succ k =>
    have h := U13_0 hS h
    have e20 : (20 : Int32).toInt = 20 := by decide +kernel
    have e600 : (600 : Int32).toInt = 600 := by decide +kernel
    by_cases c : gI w 1 5 + 20 ≤ 600
    · rw [if_pos c] at h
      rw [Int32.le_iff_toInt_le, zi_add hL e20 (by omega) (by omega), e600] at c
      obtain ⟨r1, w1, q1, h⟩ := h
      obtain ⟨a1, a2, a3, a4⟩ := F14 hS hL (by omega) q1
      obtain ⟨r2, w2, q2, h⟩ := h a1 a2.2.2.2
      obtain ⟨b1, b2, b3, b4⟩ := F14 a2.2.2.2 a3 (by omega) q2
      obtain ⟨r3, w3, q3, h⟩ := h b1 b2.2.2.2
      obtain ⟨c1, c2, c3, c4⟩ := F14 b2.2.2.2 b3 (by omega) q3
      obtain ⟨r4, w4, q4, h⟩ := h c1 c2.2.2.2
      obtain ⟨d1, d2, d3, d4⟩ := F14 c2.2.2.2 c3 (by omega) q4
      obtain ⟨r5, w5, q5, h⟩ := h d1 d2.2.2.2
      obtain ⟨e1, e2, e3, e4⟩ := F14 d2.2.2.2 d3 (by omega) q5
      obtain ⟨h1, h2⟩ := h e1 e2.2.2.2
      subst w'
      refine ⟨FM_trans a2 (FM_trans b2 (FM_trans c2 (FM_trans d2 e2))), Or.inr ⟨by omega, h1, e3, fun j => ?_⟩⟩
      rw [e4, d4, c4, b4, a4]
      unfold n5
      by_cases z0 : L ≤ j ∧ j < L + 20
      · rw [if_pos z0]
        obtain ⟨t, ht⟩ : ∃ t, t = j - L := ⟨_, rfl⟩
        have hj : j = L + t := by omega
        subst hj
        rw [show L + t - L = t by omega]
        have ht : t < 20 := by omega
        by_cases t4 : t < 4
        · rw [if_neg (by omega), if_neg (by omega), if_neg (by omega), if_neg (by omega), if_pos (by omega), if_pos t4, show t % 4 = t by omega]
        rw [if_neg t4]
        by_cases t8 : t < 8
        · rw [if_neg (by omega), if_neg (by omega), if_neg (by omega), if_pos (by omega), if_pos t8, show L + t - (L + 4) = t % 4 by omega]
        rw [if_neg t8]
        by_cases t12 : t < 12
        · rw [if_neg (by omega), if_neg (by omega), if_pos (by omega), if_pos t12, show L + t - (L + 4 + 4) = t % 4 by omega]
        rw [if_neg t12]
        by_cases t16 : t < 16
        · rw [if_neg (by omega), if_pos (by omega), if_pos t16, show L + t - (L + 4 + 4 + 4) = t % 4 by omega]
        rw [if_neg t16, if_pos (by omega), show L + t - (L + 4 + 4 + 4 + 4) = t % 4 by omega]
      · rw [if_neg z0, if_neg (by omega), if_neg (by omega), if_neg (by omega), if_neg (by omega), if_neg (by omega)]
    · rw [if_neg c] at h
      rw [Int32.le_iff_toInt_le, zi_add hL e20 (by omega) (by omega), e600] at c
      obtain ⟨h1, h2⟩ := h
      subst w'
      exact ⟨FM_refl hS, Or.inl ⟨by omega, h1, rfl⟩⟩
theorem sh_t {t : Nat} {i6 : Int32} (h : i6.toInt = t) (ht : t < 20) : (24 - (8 * (i6 - i6 / 4 * 4)) &&& 31) = shI (t % 4) &&& 31 := by
  have e := i32_of h (by omega)
  have h : (List.range 20).all (fun t => decide ((24 - (8 * (Int32.ofNat t - Int32.ofNat t / 4 * 4)) &&& 31) = shI (t % 4) &&& 31)) = true := by decide +kernel
  have q := List.all_eq_true.mp h t (List.mem_range.mpr ht)
  rw [e]
  exact of_decide_eq_true q
theorem L196 (hL6 : L + 20 ≤ 600) : ∀ (k : Nat) (w : pm_W) (t : Nat) (i6 : Int32) (u7 : Value), SK w → i6.toInt = t → t ≤ 20 → (al w 2).toInt = (L + t : Nat) → PS X k 196 20 [.ref 147, .int p1, .int p2, .int p3, .int p4, .int p5, .int i6, u7] [] w r w' → FM [] [148] w w' ∧ r = some (.int (al w' 2)) ∧ (al w' 2).toInt = (L + 20 : Nat) ∧ ∀ q, q ≠ 2 → al w' q = if 10 + (L + t) ≤ q ∧ q < 10 + (L + 20) then bR (n5 p1 p2 p3 p4 p5 (q - (10 + L))) ((q - (10 + L)) % 4) else al w q := by
  intro k
  have e4 : (4 : Int32).toInt = 4 := four32
  have e8 : (8 : Int32).toInt = 8 := eight32
  have e12 : (12 : Int32).toInt = 12 := by decide +kernel
  have e16 : (16 : Int32).toInt = 16 := by decide +kernel
  have e20 : (20 : Int32).toInt = 20 := by decide +kernel
  induction k with
  | zero => intro w t i6 u7 hS h6 ht hl h; exact (PS_0 h).elim
  | succ k ih =>
    intro w t i6 u7 hS h6 ht hl h
    have h := U196_20 hS h
    have e2 : ∀ w : pm_W, aG w 148 2 = al w 2 := fun w => aG_n (m := 2) two32
    by_cases c : 20 ≤ i6
    · rw [if_pos c] at h
      rw [Int32.le_iff_toInt_le, e20, h6] at c
      obtain ⟨_, h1, h2⟩ := h
      subst w'
      rw [e2] at h1
      refine ⟨FM_refl hS, h1, by rw [hl]; omega, fun q _ => by rw [if_neg (by omega)]⟩
    · rw [if_neg c] at h
      rw [Int32.le_iff_toInt_le, e20, h6] at c
      have go : ∀ y : Int32, y = n5 p1 p2 p3 p4 p5 t → (aI w 148 2 ∧ (aI w 148 (10 + (aG w 148 2)) ∧ (∀ w1 : pm_W, w1 = aS w 148 (10 + (aG w 148 2)) ((y >>> (24 - (8 * (i6 - i6 / 4 * 4)) &&& 31)) &&& 255) → (aI w1 148 2 ∧ (aI w1 148 2 ∧ (∀ w2 : pm_W, w2 = aS w1 148 2 ((aG w1 148 2) + 1) → (PS X k 196 20 [.ref 147, .int p1, .int p2, .int p3, .int p4, .int p5, .int (i6 + 1), .int y] [] w2 r w'))))))) → FM [] [148] w w' ∧ r = some (.int (al w' 2)) ∧ (al w' 2).toInt = (L + 20 : Nat) ∧ ∀ q, q ≠ 2 → al w' q = if 10 + (L + t) ≤ q ∧ q < 10 + (L + 20) then bR (n5 p1 p2 p3 p4 p5 (q - (10 + L))) ((q - (10 + L)) % 4) else al w q := by
        intro y hy z
        obtain ⟨_, _, z⟩ := z
        obtain ⟨_, _, z⟩ := z _ rfl
        have z := z _ rfl
        rw [e2, sh_t h6 (by omega)] at z
        have ei : (10 + al w 2).toInt = (10 + (L + t) : Nat) := by rw [zi_add ten32 hl (by omega) (by omega)]; rfl
        obtain ⟨w1, e1⟩ : ∃ w1, w1 = aS w 148 (10 + al w 2) ((y >>> (shI (t % 4) &&& 31)) &&& 255) := ⟨_, rfl⟩
        rw [← e1, e2] at z
        have f1 : FM [] [148] w w1 := by rw [e1]; exact FM_aS hS (by decide)
        have S1 := f1.2.2.2
        have a1 : ∀ q, al w1 q = if q = 10 + (L + t) then bR y (t % 4) else al w q := fun q => by
          rw [e1, al_aS hS ei (by omega)]
          rfl
        have a12 : al w1 2 = al w 2 := by rw [a1, if_neg (by omega)]
        rw [a12] at z
        obtain ⟨w2, e2'⟩ : ∃ w2, w2 = aS w1 148 2 (al w 2 + 1) := ⟨_, rfl⟩
        rw [← e2'] at z
        have f2 : FM [] [148] w1 w2 := by rw [e2']; exact FM_aS S1 (by decide)
        have a2 : ∀ q, al w2 q = if q = 2 then al w 2 + 1 else al w1 q := fun q => by rw [e2', al_aS S1 two32 (by decide)]
        obtain ⟨b1, b2, b3, b4⟩ := ih w2 (t + 1) (i6 + 1) _ f2.2.2.2 (by rw [zi_inc (n := 20) (by omega) (by omega), h6]; rfl) (by omega) (by rw [a2, if_pos rfl, zi_add hl o32 (by omega) (by omega)]; omega) z
        refine ⟨FM_trans f1 (FM_trans f2 b1), b2, b3, fun q hq => ?_⟩
        rw [b4 q hq, a2, if_neg hq, a1]
        by_cases y1 : 10 + (L + (t + 1)) ≤ q ∧ q < 10 + (L + 20)
        · rw [if_pos y1, if_pos (by omega)]
        · rw [if_neg y1]
          by_cases y2 : q = 10 + (L + t)
          · rw [if_pos y2, if_pos (by omega), hy, show q - (10 + L) = t by omega]
          · rw [if_neg y2, if_neg (by omega)]
      unfold n5 at go
      by_cases c4 : 4 ≤ i6
      · rw [if_pos c4] at h
        rw [Int32.le_iff_toInt_le, e4, h6] at c4
        rw [if_neg (show ¬ t < 4 by omega)] at go
        by_cases c8 : 8 ≤ i6
        · rw [if_pos c8] at h
          rw [Int32.le_iff_toInt_le, e8, h6] at c8
          rw [if_neg (show ¬ t < 8 by omega)] at go
          by_cases c12 : 12 ≤ i6
          · rw [if_pos c12] at h
            rw [Int32.le_iff_toInt_le, e12, h6] at c12
            rw [if_neg (show ¬ t < 12 by omega)] at go
            by_cases c16 : 16 ≤ i6
            · rw [if_pos c16] at h
              rw [Int32.le_iff_toInt_le, e16, h6] at c16
              rw [if_neg (show ¬ t < 16 by omega)] at go
              exact go _ rfl h
            · rw [if_neg c16] at h
              rw [Int32.le_iff_toInt_le, e16, h6] at c16
              rw [if_pos (show t < 16 by omega)] at go
              exact go _ rfl h
          · rw [if_neg c12] at h
            rw [Int32.le_iff_toInt_le, e12, h6] at c12
            rw [if_pos (show t < 12 by omega)] at go
            exact go _ rfl h
        · rw [if_neg c8] at h
          rw [Int32.le_iff_toInt_le, e8, h6] at c8
          rw [if_pos (show t < 8 by omega)] at go
          exact go _ rfl h
      · rw [if_neg c4] at h
        rw [Int32.le_iff_toInt_le, e4, h6] at c4
        rw [if_pos (show t < 4 by omega)] at go
        exact go _ rfl h
theorem F196 (hS : SK w) (hL : (al w 2).toInt = L) (h60 : L ≤ 600) (h : PS X k 196 0 [.ref 147, .int p1, .int p2, .int p3, .int p4, .int p5, pm_dead, pm_dead] [] w r w') : FM [] [148] w w' ∧ ((600 < L + 20 ∧ r = some (.int (-1)) ∧ w' = w) ∨ (L + 20 ≤ 600 ∧ r = some (.int (al w' 2)) ∧ (al w' 2).toInt = (L + 20 : Nat) ∧ ∀ q, q ≠ 2 → al w' q = if 10 + L ≤ q ∧ q < 10 + (L + 20) then bR (n5 p1 p2 p3 p4 p5 (q - (10 + L))) ((q - (10 + L)) % 4) else al w q)) := by
  cases k with
  | zero => exact (PS_0 h).elim
  | succ k =>
    obtain ⟨_, h⟩ := U196_0 hS h
    have e20 : (20 : Int32).toInt = 20 := by decide +kernel
    have e600 : (600 : Int32).toInt = 600 := by decide +kernel
    rw [show aG w 148 2 = al w 2 from aG_n (m := 2) two32] at h
    by_cases c : al w 2 + 20 ≤ 600
    · rw [if_pos c] at h
      rw [Int32.le_iff_toInt_le, zi_add hL e20 (by omega) (by omega), e600] at c
      obtain ⟨a1, a2, a3, a4⟩ := L196 (L := L) (by omega) _ w 0 0 _ hS z32 (by decide) (by rw [hL]; rfl) h
      exact ⟨a1, Or.inr ⟨by omega, a2, a3, a4⟩⟩
    · rw [if_neg c] at h
      rw [Int32.le_iff_toInt_le, zi_add hL e20 (by omega) (by omega), e600] at c
      obtain ⟨h1, h2⟩ := h
      subst w'
      exact ⟨FM_refl hS, Or.inl ⟨by omega, h1, rfl⟩⟩
/-- what is told by others than the tape -/
theorem TE_tp {L' : Nat} {as : List Nat} {fs : List (Nat × Nat)} (hS : SK w) (hTE : TE w 1 (al w)) (fm : FM fs as w w2) (hf : ∀ p, p ∈ [((1, 2) : Nat × Nat), (1, 3), (1, 6), (1, 7), (5, 0), (5, 1), (5, 2), (10, 0), (10, 1), (10, 2), (15, 0), (17, 0), (19, 0)] → p ∉ fs) (ha : ∀ x, x ∈ [6, 7, 8, 9, 11, 12, 13, 14, 16, 18, 20] → x ∉ as) (h5 : gI w2 1 5 = al w2 2) (h5' : (al w2 2).toInt = L') (h6 : L' ≤ 600) (hal : ∀ q, q ≠ 2 → (q < 10 ∨ 610 ≤ q) → al w2 q = al w q) (ht : ∀ j, j < L' → BY ((gA w2 4).getD j 0) (al w2 (10 + j))) : TE w2 1 (al w2) := by
  obtain ⟨⟨r1, r2, r3, r4, r5, r6, r7⟩, t1, t2, t3, t4, t5, t6, t7, t8⟩ := hTE
  have e0 := hal 0 (by decide) (by decide)
  have e1 := hal 1 (by decide) (by decide)
  refine ⟨⟨?_, ?_, ?_, ?_, ?_, ?_, ?_⟩, ?_, ?_, h5, ?_, ?_, ?_, ?_, ?_⟩
  · rw [e0]; exact r1
  · rw [e0]; exact r2
  · rw [e1]; exact r3
  · rw [e1]; exact r4
  · omega
  · omega
  · intro u hu
    rw [e1] at hu
    rw [hal _ (by omega) (by omega)]
    exact r7 u hu
  · rw [FM_i fm (hf _ (by decide)), e0]; exact t1
  · rw [FM_i fm (hf _ (by decide)), e1]; exact t2
  · rw [FM_i fm (hf _ (by decide)), hal 3 (by decide) (by decide)]; exact t4
  · rw [FM_i fm (hf _ (by decide)), hal 4 (by decide) (by decide)]; exact t5
  · intro j hj
    exact ht j (by omega)
  · intro u hu k hk
    rw [e0] at hu
    rw [hal _ (by omega) (by omega), ← t7 u hu k hk]
    have c : u = 0 ∨ u = 1 := by omega
    rcases c with rfl | rfl
    · exact vcl_FMv hS fm (by decide +kernel) (hf _ (by decide)) (hf _ (by decide)) (hf _ (by decide)) (ha _ (by decide)) (ha _ (by decide)) (ha _ (by decide)) (ha _ (by decide)) k
    · exact vcl_FMv hS fm (by decide +kernel) (hf _ (by decide)) (hf _ (by decide)) (hf _ (by decide)) (ha _ (by decide)) (ha _ (by decide)) (ha _ (by decide)) (ha _ (by decide)) k
  · intro u hu
    rw [e1] at hu
    rw [hal _ (by omega) (by omega)]
    obtain ⟨y1, y2⟩ := t8 u hu
    have c : u = 0 ∨ u = 1 ∨ u = 2 := by omega
    refine ⟨?_, fun q hq => ?_⟩
    · rw [← y1]
      rcases c with rfl | rfl | rfl <;> exact FM_i fm (hf _ (by decide))
    · rw [hal _ (by omega) (by omega), ← y2 q hq]
      rcases c with rfl | rfl | rfl <;> rw [FM_a fm (ha _ (by decide))]
theorem FEED (hS : SK w) (hTE : TE w 1 (al w)) (h1 : PS X k 13 0 [.ref 0, .int p1, .int p2, .int p3, .int p4, .int p5] [] w r w1) (h2 : PS X k2 196 0 [.ref 147, .int p1, .int p2, .int p3, .int p4, .int p5, pm_dead, pm_dead] [] w1 r2 w2) : r2 = r ∧ TE w2 1 (al w2) ∧ FM [(1, 5)] [4, 148] w w2 ∧ ∀ q, 1690 ≤ q → al w2 q = al w q := by
  have hT := hTE
  obtain ⟨⟨r1, r2', r3, r4, r5, r6, r7⟩, t1, t2, t3, t4, t5, t6, t7, t8⟩ := hT
  obtain ⟨a1, A⟩ := F13 (L := (al w 2).toInt.toNat) hS (by rw [t3]; omega) (by omega) h1
  have ea : al w1 = al w := al_FM a1 (by decide)
  obtain ⟨b1, B⟩ := F196 (L := (al w 2).toInt.toNat) a1.2.2.2 (by rw [ea]; omega) (by omega) h2
  rw [ea] at B
  have fa : FM [(1, 5)] [4, 148] w w2 := FM_trans (FM_mono a1 (by decide) (by decide)) (FM_mono b1 (by intro x hx; cases hx) (by decide))
  rcases A with ⟨c1, c2, c3⟩ | ⟨c1, c2, c3, c4⟩
  · rcases B with ⟨d1, d2, d3⟩ | ⟨d1, _⟩
    · subst w1
      subst w2
      exact ⟨by rw [c2, d2], hTE, fa, fun q _ => rfl⟩
    · omega
  · rcases B with ⟨d1, _⟩ | ⟨d1, d2, d3, d4⟩
    · omega
    · have e5 : gI w2 1 5 = al w2 2 := by
        rw [FM_i b1 (by intro z; cases z)]
        exact Int32.toInt_inj.mp (c3.trans d3.symm)
      refine ⟨?_, ?_, fa, fun q hq => ?_⟩
      · rw [c2, d2, ← e5, FM_i b1 (by intro z; cases z)]
      · refine TE_tp hS hTE fa (by decide) (by decide) e5 d3 d1 (fun q hq hq2 => ?_) (fun j hj => ?_)
        · rw [d4 q hq, if_neg (by omega)]
        · rw [FM_a b1 (by decide), c4, d4 _ (by omega)]
          by_cases z : (al w 2).toInt.toNat ≤ j
          · rw [if_pos (by omega), if_pos (by omega), show 10 + j - (10 + (al w 2).toInt.toNat) = j - (al w 2).toInt.toNat by omega]
            exact BY_b
          · rw [if_neg (by omega), if_neg (by omega)]
            exact t6 j (by omega)
      · rw [d4 q (by omega), if_neg (by omega)]
theorem ENDS (hS : SK w) (hTE : TE w 1 (al w)) (h1 : PS X k 15 0 [.ref 0, .int p1] [] w r w1) (h2 : PS X k2 197 0 [.ref 147, .int p1] [] w1 r2 w2) : r2 = r ∧ TE w2 1 (al w2) ∧ FM [(1, 5)] [4, 148] w w2 ∧ ∀ q, 1690 ≤ q → al w2 q = al w q := by
  have hT := hTE
  obtain ⟨⟨r1, r2', r3, r4, r5, r6, r7⟩, t1, t2, t3, t4, t5, t6, t7, t8⟩ := hT
  cases k with
  | zero => exact (PS_0 h1).elim
  | succ k =>
    cases k2 with
    | zero => exact (PS_0 h2).elim
    | succ k2 =>
      have h1 := U15_0 hS h1
      rw [t3] at h1
      by_cases c : p1 < 0
      · rw [if_pos c] at h1
        obtain ⟨a1, a2⟩ := h1
        subst w1
        have h2 := U197_0 hS h2
        rw [if_pos c] at h2
        obtain ⟨b1, b2⟩ := h2
        subst w2
        exact ⟨by rw [a1, b1], hTE, FM_refl hS, fun q _ => rfl⟩
      · rw [if_neg c] at h1
        by_cases c2 : p1 ≤ al w 2
        · rw [if_pos c2] at h1
          obtain ⟨a1, a2⟩ := h1 _ rfl
          have f1 : FM [(1, 5)] [4, 148] w w1 := by rw [a2]; exact FM_sI hS (by decide)
          have ea : al w1 = al w := by funext q; rw [a2]; unfold al; rw [gA_sI]
          have h2 := U197_0 f1.2.2.2 h2
          rw [if_neg c] at h2
          obtain ⟨_, h2⟩ := h2
          rw [show aG w1 148 2 = al w1 2 from aG_n (m := 2) two32, ea, if_pos c2] at h2
          obtain ⟨_, h2⟩ := h2
          obtain ⟨b1, b2⟩ := h2 _ rfl
          have f2 : FM [(1, 5)] [4, 148] w1 w2 := by rw [b2]; exact FM_aS f1.2.2.2 (by decide)
          have al2 : ∀ q, al w2 q = if q = 2 then p1 else al w q := fun q => by rw [b2, al_aS f1.2.2.2 two32 (by decide), ea]
          rw [Int32.lt_iff_toInt_lt, z32] at c
          rw [Int32.le_iff_toInt_le] at c2
          refine ⟨by rw [a1, b1], ?_, FM_trans f1 f2, fun q hq => by rw [al2, if_neg (by omega)]⟩
          have e5 : gI w2 1 5 = al w2 2 := by
            rw [al2, if_pos rfl, b2, gI_aS, a2, gI_sI (SK_isF hS (by decide +kernel))]
          refine TE_tp (L' := p1.toInt.toNat) hS hTE (FM_trans f1 f2) (by decide) (by decide) e5 (by rw [al2, if_pos rfl]; omega) (by omega) (fun q hq _ => by rw [al2, if_neg hq]) (fun j hj => ?_)
          rw [al2, if_neg (by omega), b2, gA_aS_ne (by decide), a2, gA_sI]
          exact t6 j (by omega)
        · rw [if_neg c2] at h1
          obtain ⟨a1, a2⟩ := h1
          subst w1
          have h2 := U197_0 hS h2
          rw [if_neg c] at h2
          obtain ⟨_, h2⟩ := h2
          rw [show aG w 148 2 = al w 2 from aG_n (m := 2) two32, if_neg c2] at h2
          obtain ⟨b1, b2⟩ := h2
          subst w2
          exact ⟨by rw [a1, b1], hTE, FM_refl hS, fun q _ => rfl⟩
end GS
