section
/-! ===== what is told, copied (printed by f71.py) ===== -/
section GR
variable {X : pm_X} {k : Nat} {w w' : pm_W} {r : Option Value}
def tF1 : List (Nat × Nat) := [(1, 2), (1, 3), (1, 5), (1, 6), (1, 7), (5, 0), (5, 1), (5, 2), (10, 0), (10, 1), (10, 2), (15, 0), (17, 0), (19, 0)]
def tA1 : List Nat := [4, 6, 7, 8, 9, 11, 12, 13, 14, 16, 18, 20]
def tF87 : List (Nat × Nat) := [(87, 2), (87, 3), (87, 5), (87, 6), (87, 7), (91, 0), (91, 1), (91, 2), (96, 0), (96, 1), (96, 2), (101, 0), (103, 0), (105, 0)]
def tA87 : List Nat := [90, 92, 93, 94, 95, 97, 98, 99, 100, 102, 104, 106]
def tF107 : List (Nat × Nat) := [(107, 2), (107, 3), (107, 5), (107, 6), (107, 7), (111, 0), (111, 1), (111, 2), (116, 0), (116, 1), (116, 2), (121, 0), (123, 0), (125, 0)]
def tA107 : List Nat := [110, 112, 113, 114, 115, 117, 118, 119, 120, 122, 124, 126]
def tF127 : List (Nat × Nat) := [(127, 2), (127, 3), (127, 5), (127, 6), (127, 7), (131, 0), (131, 1), (131, 2), (136, 0), (136, 1), (136, 2), (141, 0), (143, 0), (145, 0)]
def tA127 : List Nat := [130, 132, 133, 134, 135, 137, 138, 139, 140, 142, 144, 146]
theorem L71v_87_1 {w0 : pm_W} {cnt : Int32} {cN : Nat} (hS0 : SK w0) (hc : cnt.toInt = cN) (hc2 : cN ≤ 2) : ∀ (k : Nat) (w : pm_W) (t : Nat) (i2 : Int32), FM tF87 tA87 w0 w → gI w 87 2 = cnt → i2.toInt = t → t ≤ cN → (∀ u, u < t → ∀ k, vcl w (91 + 5 * u) k = vcl w0 (5 + 5 * u) k) → PS X k 71 18 [.ref 87, .ref 1, .int i2] [] w r w' → ∃ (k' : Nat) (w1 : pm_W), FM tF87 tA87 w0 w1 ∧ gI w1 87 2 = cnt ∧ gI w1 87 3 = gI w 87 3 ∧ (∀ u, u < cN → ∀ k, vcl w1 (91 + 5 * u) k = vcl w0 (5 + 5 * u) k) ∧ PS X k' 71 49 [.ref 87, .ref 1, .int 0] [] w1 r w' := by
  intro k
  induction k with
  | zero => intro w t i2 f0 gc h2 ht hv h; exact (PS_0 h).elim
  | succ k ih =>
    intro w t i2 f0 gc h2 ht hv h
    have hS := f0.2.2.2
    have h := U71_18 hS h
    rw [gc] at h
    by_cases c : cnt ≤ i2
    · rw [if_pos c] at h
      rw [Int32.le_iff_toInt_le, hc, h2] at c
      exact ⟨k, w, f0, gc, rfl, fun u hu => hv u (by omega), h⟩
    · rw [if_neg c] at h
      rw [Int32.le_iff_toInt_le, hc, h2] at c
      obtain ⟨_, _, r1, w2, q1, q2⟩ := h
      have e1 : gR w 87 0 = 88 := sk_fix hS (by decide +kernel) (by decide)
      have e2 : gR w 1 0 = 2 := sk_fix hS (by decide +kernel) (by decide)
      have k1 : gQ w 88 = [some 91, some 96] := by rw [SK_Q hS]; decide +kernel
      have k2 : gQ w 2 = [some 5, some 10] := by rw [SK_Q hS]; decide +kernel
      unfold qG at q1
      rw [e1, e2, k1, k2, i_nat h2] at q1
      have ct : t = 0 ∨ t = 1 := by omega
      have done : ∀ (fm : FM tF87 tA87 w w2), r1 = none → gI w2 87 2 = gI w 87 2 → gI w2 87 3 = gI w 87 3 → (∀ u, u < t + 1 → ∀ k, vcl w2 (91 + 5 * u) k = vcl w0 (5 + 5 * u) k) → ∃ (k' : Nat) (w1 : pm_W), FM tF87 tA87 w0 w1 ∧ gI w1 87 2 = cnt ∧ gI w1 87 3 = gI w 87 3 ∧ (∀ u, u < cN → ∀ k, vcl w1 (91 + 5 * u) k = vcl w0 (5 + 5 * u) k) ∧ PS X k' 71 49 [.ref 87, .ref 1, .int 0] [] w1 r w' := by
        intro fm er z2 z3 z4
        obtain ⟨k', w1, y1, y2, y3, y4⟩ := ih w2 (t + 1) (i2 + 1) (FM_trans f0 fm) (z2.trans gc) (by rw [zi_inc (n := 2) (by omega) (by omega), h2]; rfl) (by omega) z4 (q2 er fm.2.2.2)
        exact ⟨k', w1, y1, y2, y3.trans z3, y4⟩
      rcases ct with rfl | rfl
      · obtain ⟨a1, a2, a3⟩ := F56 hS (a := 91) (s := 5) (by decide +kernel) (by decide +kernel) (by decide) q1
        refine done (FM_mono a2 (by decide) (by decide)) a1 (FM_i a2 (by decide)) (FM_i a2 (by decide)) (fun u hu k => ?_)
        have eu : u = 0 := by omega
        subst eu
        rw [show 91 + 5 * 0 = 91 from rfl, show 5 + 5 * 0 = 5 from rfl, a3 k]
        exact vcl_FMv hS0 f0 (by decide +kernel) (by decide) (by decide) (by decide) (by decide) (by decide) (by decide) (by decide) k
      · obtain ⟨a1, a2, a3⟩ := F56 hS (a := 96) (s := 10) (by decide +kernel) (by decide +kernel) (by decide) q1
        refine done (FM_mono a2 (by decide) (by decide)) a1 (FM_i a2 (by decide)) (FM_i a2 (by decide)) (fun u hu k => ?_)
        have cu : u = 0 ∨ u = 1 := by omega
        rcases cu with rfl | rfl
        · rw [← hv 0 (by omega) k]
          exact vcl_FMv hS a2 (by decide +kernel) (by decide) (by decide) (by decide) (by decide) (by decide) (by decide) (by decide) k
        · rw [show 91 + 5 * 1 = 96 from rfl, show 5 + 5 * 1 = 10 from rfl, a3 k]
          exact vcl_FMv hS0 f0 (by decide +kernel) (by decide) (by decide) (by decide) (by decide) (by decide) (by decide) (by decide) k
theorem L71r_87_1 {w0 : pm_W} {cnt vc : Int32} {cN vN : Nat} (hS0 : SK w0) (hc : cnt.toInt = cN) (hc2 : cN ≤ 3) (hv2 : vN ≤ 2) : ∀ (k : Nat) (w : pm_W) (t : Nat) (i2 : Int32), FM tF87 tA87 w0 w → gI w 87 3 = cnt → gI w 87 2 = vc → i2.toInt = t → t ≤ cN → (∀ u, u < vN → ∀ k, vcl w (91 + 5 * u) k = vcl w0 (5 + 5 * u) k) → (∀ u, u < t → gI w (101 + 2 * u) 0 = gI w0 (15 + 2 * u) 0 ∧ ∀ q, q < 270 → (gA w (102 + 2 * u)).getD q 0 = (gA w0 (16 + 2 * u)).getD q 0) → PS X k 71 49 [.ref 87, .ref 1, .int i2] [] w r w' → ∃ (k' : Nat) (w1 : pm_W) (i2' : Int32), FM tF87 tA87 w0 w1 ∧ gI w1 87 2 = vc ∧ gI w1 87 3 = cnt ∧ (∀ u, u < vN → ∀ k, vcl w1 (91 + 5 * u) k = vcl w0 (5 + 5 * u) k) ∧ (∀ u, u < cN → gI w1 (101 + 2 * u) 0 = gI w0 (15 + 2 * u) 0 ∧ ∀ q, q < 270 → (gA w1 (102 + 2 * u)).getD q 0 = (gA w0 (16 + 2 * u)).getD q 0) ∧ (∀ w2 : pm_W, w2 = sI w1 87 5 (gI w1 1 5) → (cpI w2 (gR w2 1 4) (gR w2 87 4) 0 0 (gI w2 87 5) ∧ (∀ w3 : pm_W, w3 = cpS w2 (gR w2 1 4) (gR w2 87 4) 0 0 (gI w2 87 5) → (∀ w4 : pm_W, w4 = sI w3 87 6 (gI w3 1 6) → (∀ w5 : pm_W, w5 = sI w4 87 7 (gI w4 1 7) → (r = none ∧ w' = w5)))))) := by
  intro k
  induction k with
  | zero => intro w t i2 f0 gc gv h2 ht hvv hv h; exact (PS_0 h).elim
  | succ k ih =>
    intro w t i2 f0 gc gv h2 ht hvv hv h
    have hS := f0.2.2.2
    have h := U71_49 hS h
    rw [gc] at h
    by_cases c : cnt ≤ i2
    · rw [if_pos c] at h
      rw [Int32.le_iff_toInt_le, hc, h2] at c
      exact ⟨k, w, i2, f0, gv, gc, hvv, fun u hu => hv u (by omega), h⟩
    · rw [if_neg c] at h
      rw [Int32.le_iff_toInt_le, hc, h2] at c
      obtain ⟨_, _, r1, w2, q1, q2⟩ := h
      have e1 : gR w 87 1 = 89 := sk_fix hS (by decide +kernel) (by decide)
      have e2 : gR w 1 1 = 3 := sk_fix hS (by decide +kernel) (by decide)
      have k1 : gQ w 89 = [some 101, some 103, some 105] := by rw [SK_Q hS]; decide +kernel
      have k2 : gQ w 3 = [some 15, some 17, some 19] := by rw [SK_Q hS]; decide +kernel
      unfold qG at q1
      rw [e1, e2, k1, k2, i_nat h2] at q1
      have ct : t = 0 ∨ t = 1 ∨ t = 2 := by omega
      have vcl_x : ∀ {fs : List (Nat × Nat)} {as : List Nat} (fm : FM fs as w w2), (∀ p, p ∈ [(91, 0), (91, 1), (91, 2), (96, 0), (96, 1), (96, 2)] → p ∉ fs) → (∀ x, x ∈ [91 + 1, 91 + 2, 91 + 3, 91 + 4, 96 + 1, 96 + 2, 96 + 3, 96 + 4] → x ∉ as) → ∀ u, u < vN → ∀ k, vcl w2 (91 + 5 * u) k = vcl w0 (5 + 5 * u) k := by
        intro fs as fm h1 h2 u hu k
        rw [← hvv u hu k]
        have cu : u = 0 ∨ u = 1 := by omega
        rcases cu with rfl | rfl
        · exact vcl_FMv hS fm (by decide +kernel) (h1 _ (by decide)) (h1 _ (by decide)) (h1 _ (by decide)) (h2 _ (by decide)) (h2 _ (by decide)) (h2 _ (by decide)) (h2 _ (by decide)) k
        · exact vcl_FMv hS fm (by decide +kernel) (h1 _ (by decide)) (h1 _ (by decide)) (h1 _ (by decide)) (h2 _ (by decide)) (h2 _ (by decide)) (h2 _ (by decide)) (h2 _ (by decide)) k
      have done : ∀ (fm : FM tF87 tA87 w w2), r1 = none → gI w2 87 3 = gI w 87 3 → (∀ x : Nat, x = 0 → gI w2 87 2 = gI w 87 2 ∧ gA w2 90 = gA w 90 ∧ gI w2 87 5 = gI w 87 5 ∧ gI w2 87 6 = gI w 87 6 ∧ gI w2 87 7 = gI w 87 7) → (∀ u, u < vN → ∀ k, vcl w2 (91 + 5 * u) k = vcl w0 (5 + 5 * u) k) → (∀ u, u < t + 1 → gI w2 (101 + 2 * u) 0 = gI w0 (15 + 2 * u) 0 ∧ ∀ q, q < 270 → (gA w2 (102 + 2 * u)).getD q 0 = (gA w0 (16 + 2 * u)).getD q 0) → _ := fun fm er z1 z2 z3 z4 => ih w2 (t + 1) (i2 + 1) (FM_trans f0 fm) (z1.trans gc) ((z2 0 rfl).1.trans gv) (by rw [zi_inc (n := 3) (by omega) (by omega), h2]; rfl) (by omega) z3 z4 (q2 er fm.2.2.2)
      rcases ct with rfl | rfl | rfl
      · obtain ⟨a1, a2, a3, a4⟩ := F57 hS (a := 101) (s := 15) (by decide +kernel) (by decide +kernel) (by decide) q1
        refine done (FM_mono a2 (by decide) (by decide)) a1 (FM_i a2 (by decide)) (fun x hx => ⟨FM_i a2 (by decide), FM_a a2 (by decide), FM_i a2 (by decide), FM_i a2 (by decide), FM_i a2 (by decide)⟩) (fun u hu k => vcl_x a2 (by decide) (by decide) u hu k) (fun u hu => ?_)
        have cu : u = 0 := by omega
        subst cu
        · refine ⟨?_, fun q hq => ?_⟩
          · show gI w2 101 0 = gI w0 15 0
            rw [a3]; exact FM_i f0 (by decide)
          · show (gA w2 102).getD q 0 = (gA w0 16).getD q 0
            rw [a4 q hq, FM_a f0 (by decide)]
      · obtain ⟨a1, a2, a3, a4⟩ := F57 hS (a := 103) (s := 17) (by decide +kernel) (by decide +kernel) (by decide) q1
        refine done (FM_mono a2 (by decide) (by decide)) a1 (FM_i a2 (by decide)) (fun x hx => ⟨FM_i a2 (by decide), FM_a a2 (by decide), FM_i a2 (by decide), FM_i a2 (by decide), FM_i a2 (by decide)⟩) (fun u hu k => vcl_x a2 (by decide) (by decide) u hu k) (fun u hu => ?_)
        have cu : u = 0 ∨ u = 1 := by omega
        rcases cu with rfl | rfl
        · obtain ⟨y1, y2⟩ := hv 0 (by omega)
          refine ⟨?_, fun q hq => ?_⟩
          · rw [← y1]; exact FM_i a2 (by decide)
          · rw [← y2 q hq, FM_a a2 (by decide)]
        · refine ⟨?_, fun q hq => ?_⟩
          · show gI w2 103 0 = gI w0 17 0
            rw [a3]; exact FM_i f0 (by decide)
          · show (gA w2 104).getD q 0 = (gA w0 18).getD q 0
            rw [a4 q hq, FM_a f0 (by decide)]
      · obtain ⟨a1, a2, a3, a4⟩ := F57 hS (a := 105) (s := 19) (by decide +kernel) (by decide +kernel) (by decide) q1
        refine done (FM_mono a2 (by decide) (by decide)) a1 (FM_i a2 (by decide)) (fun x hx => ⟨FM_i a2 (by decide), FM_a a2 (by decide), FM_i a2 (by decide), FM_i a2 (by decide), FM_i a2 (by decide)⟩) (fun u hu k => vcl_x a2 (by decide) (by decide) u hu k) (fun u hu => ?_)
        have cu : u = 0 ∨ u = 1 ∨ u = 2 := by omega
        rcases cu with rfl | rfl | rfl
        · obtain ⟨y1, y2⟩ := hv 0 (by omega)
          refine ⟨?_, fun q hq => ?_⟩
          · rw [← y1]; exact FM_i a2 (by decide)
          · rw [← y2 q hq, FM_a a2 (by decide)]
        · obtain ⟨y1, y2⟩ := hv 1 (by omega)
          refine ⟨?_, fun q hq => ?_⟩
          · rw [← y1]; exact FM_i a2 (by decide)
          · rw [← y2 q hq, FM_a a2 (by decide)]
        · refine ⟨?_, fun q hq => ?_⟩
          · show gI w2 105 0 = gI w0 19 0
            rw [a3]; exact FM_i f0 (by decide)
          · show (gA w2 106).getD q 0 = (gA w0 20).getD q 0
            rw [a4 q hq, FM_a f0 (by decide)]
theorem F71_87_1 {L : Nat} (hS : SK w) (h0 : 0 ≤ (gI w 1 2).toInt) (h2 : (gI w 1 2).toInt ≤ 2) (h1 : 0 ≤ (gI w 1 3).toInt) (h3 : (gI w 1 3).toInt ≤ 3) (hl : (gI w 1 5).toInt = L) (h6 : L ≤ 600) (h : PS X k 71 0 [.ref 87, .ref 1, pm_dead] [] w r w') : r = none ∧ FM tF87 tA87 w w' ∧ gI w' 87 2 = gI w 1 2 ∧ gI w' 87 3 = gI w 1 3 ∧ gI w' 87 5 = gI w 1 5 ∧ gI w' 87 6 = gI w 1 6 ∧ gI w' 87 7 = gI w 1 7 ∧ (∀ j, j < L → (gA w' 90).getD j 0 = (gA w 4).getD j 0) ∧ (∀ u, u < (gI w 1 2).toInt.toNat → ∀ k, vcl w' (91 + 5 * u) k = vcl w (5 + 5 * u) k) ∧ (∀ u, u < (gI w 1 3).toInt.toNat → gI w' (101 + 2 * u) 0 = gI w (15 + 2 * u) 0 ∧ ∀ q, q < 270 → (gA w' (102 + 2 * u)).getD q 0 = (gA w (16 + 2 * u)).getD q 0) := by
  cases k with
  | zero => exact (PS_0 h).elim
  | succ k =>
    have h := U71_0 hS h _ rfl _ rfl
    have fa : FM tF87 tA87 w (sI w 87 2 (gI w 1 2)) := FM_sI hS (by decide)
    obtain ⟨w2, e2⟩ : ∃ w2, w2 = sI (sI w 87 2 (gI w 1 2)) 87 3 (gI (sI w 87 2 (gI w 1 2)) 1 3) := ⟨_, rfl⟩
    rw [← e2] at h
    have fb : FM tF87 tA87 w w2 := FM_trans fa (by rw [e2]; exact FM_sI fa.2.2.2 (by decide))
    have g2 : gI w2 87 2 = gI w 1 2 := by rw [e2, gI_sI_ne (by decide), gI_sI (SK_isF hS (by decide +kernel))]
    have g3 : gI w2 87 3 = gI w 1 3 := by rw [e2, gI_sI (SK_isF fa.2.2.2 (by decide +kernel)), gI_sI_ne (by decide)]
    obtain ⟨k3, w3, f3, a1, a2, a3, h⟩ := L71v_87_1 (cN := (gI w 1 2).toInt.toNat) hS (by omega) (by omega) _ w2 0 0 fb g2 z32 (Nat.zero_le _) (fun u hu => absurd hu (Nat.not_lt_zero u)) h
    obtain ⟨k4, w4, i4, f4, b1, b2, b3, b4, h⟩ := L71r_87_1 (cN := (gI w 1 3).toInt.toNat) (vN := (gI w 1 2).toInt.toNat) hS (by omega) (by omega) (by omega) _ w3 0 0 f3 (a2.trans g3) a1 z32 (Nat.zero_le _) a3 (fun u hu => absurd hu (Nat.not_lt_zero u)) h
    have S4 := f4.2.2.2
    obtain ⟨hc, h⟩ := h _ rfl
    have h := h _ rfl _ rfl _ rfl
    obtain ⟨w5, e5⟩ : ∃ w5, w5 = sI w4 87 5 (gI w4 1 5) := ⟨_, rfl⟩
    rw [← e5] at h hc
    have f5 : FM [(87, 5)] [] w4 w5 := by rw [e5]; exact FM_sI S4 (by decide)
    have S5 := f5.2.2.2
    have g5 : gI w5 87 5 = gI w 1 5 := by rw [e5, gI_sI (SK_isF S4 (by decide +kernel))]; exact FM_i f4 (by decide)
    have r1 : gR w5 1 4 = 4 := sk_fix S5 (by decide +kernel) (by decide)
    have r2 : gR w5 87 4 = 90 := sk_fix S5 (by decide +kernel) (by decide)
    rw [r1, r2, g5] at h hc
    obtain ⟨w6, e6⟩ : ∃ w6, w6 = cpS w5 4 90 0 0 (gI w 1 5) := ⟨_, rfl⟩
    rw [← e6] at h
    have f6 : FM [] [90] w5 w6 := by rw [e6]; exact FM_cpS hc S5 (by decide)
    have S6 := f6.2.2.2
    have t6 : ∀ j, j < L → (gA w6 90).getD j 0 = (gA w 4).getD j 0 := by
      intro j hj
      rw [e6, cpS_A hc (SK_isA S5 (by decide +kernel)), hl, z32, cpy_getF (by rw [SK_len S5 (a := 4) (n := 600) (by decide +kernel) (by decide)]; show 0 + L ≤ 600; omega) (by rw [SK_len S5 (a := 90) (n := 600) (by decide +kernel) (by decide)]; show 0 + L ≤ 600; omega), if_pos (by show 0 ≤ j ∧ j < 0 + L; omega)]
      show (gA w5 4).getD (0 + (j - 0)) 0 = _
      rw [show 0 + (j - 0) = j by omega, FM_a f5 (by intro z; cases z), FM_a f4 (by decide)]
    obtain ⟨w7, e7⟩ : ∃ w7, w7 = sI w6 87 6 (gI w6 1 6) := ⟨_, rfl⟩
    rw [← e7] at h
    have f7 : FM [(87, 6)] [] w6 w7 := by rw [e7]; exact FM_sI S6 (by decide)
    have S7 := f7.2.2.2
    have f8 : FM [(87, 7)] [] w7 w' := by rw [h.2]; exact FM_sI S7 (by decide)
    have s6 : gI w6 1 6 = gI w 1 6 := by rw [FM_i f6 (by intro z; cases z), FM_i f5 (by decide), FM_i f4 (by decide)]
    have s7 : gI w7 1 7 = gI w 1 7 := by rw [FM_i f7 (by decide), FM_i f6 (by intro z; cases z), FM_i f5 (by decide), FM_i f4 (by decide)]
    have fx : FM [(87, 5), (87, 6), (87, 7)] [90] w4 w' := FM_trans (FM_mono f5 (by decide) (by decide)) (FM_trans (FM_mono f6 (by intro x hx; cases hx) (by decide)) (FM_trans (FM_mono f7 (by decide) (by decide)) (FM_mono f8 (by decide) (by decide))))
    refine ⟨h.1, FM_trans f4 (FM_mono fx (by decide) (by decide)), (FM_i fx (by decide)).trans b1, (FM_i fx (by decide)).trans b2, ?_, ?_, ?_, fun j hj => ?_, fun u hu k => ?_, fun u hu => ?_⟩
    · rw [FM_i f8 (by decide), FM_i f7 (by decide), FM_i f6 (by intro z; cases z)]; exact g5
    · rw [FM_i f8 (by decide), e7, gI_sI (SK_isF S6 (by decide +kernel))]; exact s6
    · rw [h.2, gI_sI (SK_isF S7 (by decide +kernel))]; exact s7
    · rw [FM_a f8 (by intro z; cases z), FM_a f7 (by intro z; cases z)]; exact t6 j hj
    · rw [← b3 u hu k]
      have cu : u = 0 ∨ u = 1 := by omega
      rcases cu with rfl | rfl
      · exact vcl_FMv S4 fx (by decide +kernel) (by decide) (by decide) (by decide) (by decide) (by decide) (by decide) (by decide) k
      · exact vcl_FMv S4 fx (by decide +kernel) (by decide) (by decide) (by decide) (by decide) (by decide) (by decide) (by decide) k
    · obtain ⟨y1, y2⟩ := b4 u hu
      have cu : u = 0 ∨ u = 1 ∨ u = 2 := by omega
      refine ⟨?_, fun q hq => ?_⟩
      · rw [← y1]
        rcases cu with rfl | rfl | rfl <;> exact FM_i fx (by decide)
      · rw [← y2 q hq]
        rcases cu with rfl | rfl | rfl <;> rw [FM_a fx (by decide)]
/-- a told object copied is told alike -/
theorem TE71_87_1 {a : Nat → Int32} (hS : SK w) (hTE : TE w 1 a) (h : PS X k 71 0 [.ref 87, .ref 1, pm_dead] [] w r w') : r = none ∧ FM tF87 tA87 w w' ∧ TE w' 87 a := by
  obtain ⟨⟨r1, r2, r3, r4, r5, r6, r7⟩, t1, t2, t3, t4, t5, t6, t7, t8⟩ := hTE
  obtain ⟨z1, z2, z3, z4, z5, z6, z7, z8, z9, z10⟩ := F71_87_1 (L := (a 2).toInt.toNat) hS (by rw [t1]; exact r1) (by rw [t1]; exact r2) (by rw [t2]; exact r3) (by rw [t2]; exact r4) (by rw [t3]; omega) (by omega) h
  rw [t1] at z9
  rw [t2] at z10
  refine ⟨z1, z2, ⟨r1, r2, r3, r4, r5, r6, r7⟩, z3.trans t1, z4.trans t2, z5.trans t3, z6.trans t4, z7.trans t5, fun j hj => ?_, fun u hu k hk => ?_, fun u hu => ?_⟩
  · show BY ((gA w' 90).getD j 0) _
    rw [z8 j hj]
    exact t6 j hj
  · exact (z9 u hu k).trans (t7 u hu k hk)
  · obtain ⟨y1, y2⟩ := z10 u hu
    obtain ⟨x1, x2⟩ := t8 u hu
    have ra := r7 u hu
    exact ⟨y1.trans x1, fun q hq => (y2 q (by omega)).trans (x2 q hq)⟩
theorem L71v_107_1 {w0 : pm_W} {cnt : Int32} {cN : Nat} (hS0 : SK w0) (hc : cnt.toInt = cN) (hc2 : cN ≤ 2) : ∀ (k : Nat) (w : pm_W) (t : Nat) (i2 : Int32), FM tF107 tA107 w0 w → gI w 107 2 = cnt → i2.toInt = t → t ≤ cN → (∀ u, u < t → ∀ k, vcl w (111 + 5 * u) k = vcl w0 (5 + 5 * u) k) → PS X k 71 18 [.ref 107, .ref 1, .int i2] [] w r w' → ∃ (k' : Nat) (w1 : pm_W), FM tF107 tA107 w0 w1 ∧ gI w1 107 2 = cnt ∧ gI w1 107 3 = gI w 107 3 ∧ (∀ u, u < cN → ∀ k, vcl w1 (111 + 5 * u) k = vcl w0 (5 + 5 * u) k) ∧ PS X k' 71 49 [.ref 107, .ref 1, .int 0] [] w1 r w' := by
  intro k
  induction k with
  | zero => intro w t i2 f0 gc h2 ht hv h; exact (PS_0 h).elim
  | succ k ih =>
    intro w t i2 f0 gc h2 ht hv h
    have hS := f0.2.2.2
    have h := U71_18 hS h
    rw [gc] at h
    by_cases c : cnt ≤ i2
    · rw [if_pos c] at h
      rw [Int32.le_iff_toInt_le, hc, h2] at c
      exact ⟨k, w, f0, gc, rfl, fun u hu => hv u (by omega), h⟩
    · rw [if_neg c] at h
      rw [Int32.le_iff_toInt_le, hc, h2] at c
      obtain ⟨_, _, r1, w2, q1, q2⟩ := h
      have e1 : gR w 107 0 = 108 := sk_fix hS (by decide +kernel) (by decide)
      have e2 : gR w 1 0 = 2 := sk_fix hS (by decide +kernel) (by decide)
      have k1 : gQ w 108 = [some 111, some 116] := by rw [SK_Q hS]; decide +kernel
      have k2 : gQ w 2 = [some 5, some 10] := by rw [SK_Q hS]; decide +kernel
      unfold qG at q1
      rw [e1, e2, k1, k2, i_nat h2] at q1
      have ct : t = 0 ∨ t = 1 := by omega
      have done : ∀ (fm : FM tF107 tA107 w w2), r1 = none → gI w2 107 2 = gI w 107 2 → gI w2 107 3 = gI w 107 3 → (∀ u, u < t + 1 → ∀ k, vcl w2 (111 + 5 * u) k = vcl w0 (5 + 5 * u) k) → ∃ (k' : Nat) (w1 : pm_W), FM tF107 tA107 w0 w1 ∧ gI w1 107 2 = cnt ∧ gI w1 107 3 = gI w 107 3 ∧ (∀ u, u < cN → ∀ k, vcl w1 (111 + 5 * u) k = vcl w0 (5 + 5 * u) k) ∧ PS X k' 71 49 [.ref 107, .ref 1, .int 0] [] w1 r w' := by
        intro fm er z2 z3 z4
        obtain ⟨k', w1, y1, y2, y3, y4⟩ := ih w2 (t + 1) (i2 + 1) (FM_trans f0 fm) (z2.trans gc) (by rw [zi_inc (n := 2) (by omega) (by omega), h2]; rfl) (by omega) z4 (q2 er fm.2.2.2)
        exact ⟨k', w1, y1, y2, y3.trans z3, y4⟩
      rcases ct with rfl | rfl
      · obtain ⟨a1, a2, a3⟩ := F56 hS (a := 111) (s := 5) (by decide +kernel) (by decide +kernel) (by decide) q1
        refine done (FM_mono a2 (by decide) (by decide)) a1 (FM_i a2 (by decide)) (FM_i a2 (by decide)) (fun u hu k => ?_)
        have eu : u = 0 := by omega
        subst eu
        rw [show 111 + 5 * 0 = 111 from rfl, show 5 + 5 * 0 = 5 from rfl, a3 k]
        exact vcl_FMv hS0 f0 (by decide +kernel) (by decide) (by decide) (by decide) (by decide) (by decide) (by decide) (by decide) k
      · obtain ⟨a1, a2, a3⟩ := F56 hS (a := 116) (s := 10) (by decide +kernel) (by decide +kernel) (by decide) q1
        refine done (FM_mono a2 (by decide) (by decide)) a1 (FM_i a2 (by decide)) (FM_i a2 (by decide)) (fun u hu k => ?_)
        have cu : u = 0 ∨ u = 1 := by omega
        rcases cu with rfl | rfl
        · rw [← hv 0 (by omega) k]
          exact vcl_FMv hS a2 (by decide +kernel) (by decide) (by decide) (by decide) (by decide) (by decide) (by decide) (by decide) k
        · rw [show 111 + 5 * 1 = 116 from rfl, show 5 + 5 * 1 = 10 from rfl, a3 k]
          exact vcl_FMv hS0 f0 (by decide +kernel) (by decide) (by decide) (by decide) (by decide) (by decide) (by decide) (by decide) k
theorem L71r_107_1 {w0 : pm_W} {cnt vc : Int32} {cN vN : Nat} (hS0 : SK w0) (hc : cnt.toInt = cN) (hc2 : cN ≤ 3) (hv2 : vN ≤ 2) : ∀ (k : Nat) (w : pm_W) (t : Nat) (i2 : Int32), FM tF107 tA107 w0 w → gI w 107 3 = cnt → gI w 107 2 = vc → i2.toInt = t → t ≤ cN → (∀ u, u < vN → ∀ k, vcl w (111 + 5 * u) k = vcl w0 (5 + 5 * u) k) → (∀ u, u < t → gI w (121 + 2 * u) 0 = gI w0 (15 + 2 * u) 0 ∧ ∀ q, q < 270 → (gA w (122 + 2 * u)).getD q 0 = (gA w0 (16 + 2 * u)).getD q 0) → PS X k 71 49 [.ref 107, .ref 1, .int i2] [] w r w' → ∃ (k' : Nat) (w1 : pm_W) (i2' : Int32), FM tF107 tA107 w0 w1 ∧ gI w1 107 2 = vc ∧ gI w1 107 3 = cnt ∧ (∀ u, u < vN → ∀ k, vcl w1 (111 + 5 * u) k = vcl w0 (5 + 5 * u) k) ∧ (∀ u, u < cN → gI w1 (121 + 2 * u) 0 = gI w0 (15 + 2 * u) 0 ∧ ∀ q, q < 270 → (gA w1 (122 + 2 * u)).getD q 0 = (gA w0 (16 + 2 * u)).getD q 0) ∧ (∀ w2 : pm_W, w2 = sI w1 107 5 (gI w1 1 5) → (cpI w2 (gR w2 1 4) (gR w2 107 4) 0 0 (gI w2 107 5) ∧ (∀ w3 : pm_W, w3 = cpS w2 (gR w2 1 4) (gR w2 107 4) 0 0 (gI w2 107 5) → (∀ w4 : pm_W, w4 = sI w3 107 6 (gI w3 1 6) → (∀ w5 : pm_W, w5 = sI w4 107 7 (gI w4 1 7) → (r = none ∧ w' = w5)))))) := by
  intro k
  induction k with
  | zero => intro w t i2 f0 gc gv h2 ht hvv hv h; exact (PS_0 h).elim
  | succ k ih =>
    intro w t i2 f0 gc gv h2 ht hvv hv h
    have hS := f0.2.2.2
    have h := U71_49 hS h
    rw [gc] at h
    by_cases c : cnt ≤ i2
    · rw [if_pos c] at h
      rw [Int32.le_iff_toInt_le, hc, h2] at c
      exact ⟨k, w, i2, f0, gv, gc, hvv, fun u hu => hv u (by omega), h⟩
    · rw [if_neg c] at h
      rw [Int32.le_iff_toInt_le, hc, h2] at c
      obtain ⟨_, _, r1, w2, q1, q2⟩ := h
      have e1 : gR w 107 1 = 109 := sk_fix hS (by decide +kernel) (by decide)
      have e2 : gR w 1 1 = 3 := sk_fix hS (by decide +kernel) (by decide)
      have k1 : gQ w 109 = [some 121, some 123, some 125] := by rw [SK_Q hS]; decide +kernel
      have k2 : gQ w 3 = [some 15, some 17, some 19] := by rw [SK_Q hS]; decide +kernel
      unfold qG at q1
      rw [e1, e2, k1, k2, i_nat h2] at q1
      have ct : t = 0 ∨ t = 1 ∨ t = 2 := by omega
      have vcl_x : ∀ {fs : List (Nat × Nat)} {as : List Nat} (fm : FM fs as w w2), (∀ p, p ∈ [(111, 0), (111, 1), (111, 2), (116, 0), (116, 1), (116, 2)] → p ∉ fs) → (∀ x, x ∈ [111 + 1, 111 + 2, 111 + 3, 111 + 4, 116 + 1, 116 + 2, 116 + 3, 116 + 4] → x ∉ as) → ∀ u, u < vN → ∀ k, vcl w2 (111 + 5 * u) k = vcl w0 (5 + 5 * u) k := by
        intro fs as fm h1 h2 u hu k
        rw [← hvv u hu k]
        have cu : u = 0 ∨ u = 1 := by omega
        rcases cu with rfl | rfl
        · exact vcl_FMv hS fm (by decide +kernel) (h1 _ (by decide)) (h1 _ (by decide)) (h1 _ (by decide)) (h2 _ (by decide)) (h2 _ (by decide)) (h2 _ (by decide)) (h2 _ (by decide)) k
        · exact vcl_FMv hS fm (by decide +kernel) (h1 _ (by decide)) (h1 _ (by decide)) (h1 _ (by decide)) (h2 _ (by decide)) (h2 _ (by decide)) (h2 _ (by decide)) (h2 _ (by decide)) k
      have done : ∀ (fm : FM tF107 tA107 w w2), r1 = none → gI w2 107 3 = gI w 107 3 → (∀ x : Nat, x = 0 → gI w2 107 2 = gI w 107 2 ∧ gA w2 110 = gA w 110 ∧ gI w2 107 5 = gI w 107 5 ∧ gI w2 107 6 = gI w 107 6 ∧ gI w2 107 7 = gI w 107 7) → (∀ u, u < vN → ∀ k, vcl w2 (111 + 5 * u) k = vcl w0 (5 + 5 * u) k) → (∀ u, u < t + 1 → gI w2 (121 + 2 * u) 0 = gI w0 (15 + 2 * u) 0 ∧ ∀ q, q < 270 → (gA w2 (122 + 2 * u)).getD q 0 = (gA w0 (16 + 2 * u)).getD q 0) → _ := fun fm er z1 z2 z3 z4 => ih w2 (t + 1) (i2 + 1) (FM_trans f0 fm) (z1.trans gc) ((z2 0 rfl).1.trans gv) (by rw [zi_inc (n := 3) (by omega) (by omega), h2]; rfl) (by omega) z3 z4 (q2 er fm.2.2.2)
      rcases ct with rfl | rfl | rfl
      · obtain ⟨a1, a2, a3, a4⟩ := F57 hS (a := 121) (s := 15) (by decide +kernel) (by decide +kernel) (by decide) q1
        refine done (FM_mono a2 (by decide) (by decide)) a1 (FM_i a2 (by decide)) (fun x hx => ⟨FM_i a2 (by decide), FM_a a2 (by decide), FM_i a2 (by decide), FM_i a2 (by decide), FM_i a2 (by decide)⟩) (fun u hu k => vcl_x a2 (by decide) (by decide) u hu k) (fun u hu => ?_)
        have cu : u = 0 := by omega
        subst cu
        · refine ⟨?_, fun q hq => ?_⟩
          · show gI w2 121 0 = gI w0 15 0
            rw [a3]; exact FM_i f0 (by decide)
          · show (gA w2 122).getD q 0 = (gA w0 16).getD q 0
            rw [a4 q hq, FM_a f0 (by decide)]
      · obtain ⟨a1, a2, a3, a4⟩ := F57 hS (a := 123) (s := 17) (by decide +kernel) (by decide +kernel) (by decide) q1
        refine done (FM_mono a2 (by decide) (by decide)) a1 (FM_i a2 (by decide)) (fun x hx => ⟨FM_i a2 (by decide), FM_a a2 (by decide), FM_i a2 (by decide), FM_i a2 (by decide), FM_i a2 (by decide)⟩) (fun u hu k => vcl_x a2 (by decide) (by decide) u hu k) (fun u hu => ?_)
        have cu : u = 0 ∨ u = 1 := by omega
        rcases cu with rfl | rfl
        · obtain ⟨y1, y2⟩ := hv 0 (by omega)
          refine ⟨?_, fun q hq => ?_⟩
          · rw [← y1]; exact FM_i a2 (by decide)
          · rw [← y2 q hq, FM_a a2 (by decide)]
        · refine ⟨?_, fun q hq => ?_⟩
          · show gI w2 123 0 = gI w0 17 0
            rw [a3]; exact FM_i f0 (by decide)
          · show (gA w2 124).getD q 0 = (gA w0 18).getD q 0
            rw [a4 q hq, FM_a f0 (by decide)]
      · obtain ⟨a1, a2, a3, a4⟩ := F57 hS (a := 125) (s := 19) (by decide +kernel) (by decide +kernel) (by decide) q1
        refine done (FM_mono a2 (by decide) (by decide)) a1 (FM_i a2 (by decide)) (fun x hx => ⟨FM_i a2 (by decide), FM_a a2 (by decide), FM_i a2 (by decide), FM_i a2 (by decide), FM_i a2 (by decide)⟩) (fun u hu k => vcl_x a2 (by decide) (by decide) u hu k) (fun u hu => ?_)
        have cu : u = 0 ∨ u = 1 ∨ u = 2 := by omega
        rcases cu with rfl | rfl | rfl
        · obtain ⟨y1, y2⟩ := hv 0 (by omega)
          refine ⟨?_, fun q hq => ?_⟩
          · rw [← y1]; exact FM_i a2 (by decide)
          · rw [← y2 q hq, FM_a a2 (by decide)]
        · obtain ⟨y1, y2⟩ := hv 1 (by omega)
          refine ⟨?_, fun q hq => ?_⟩
          · rw [← y1]; exact FM_i a2 (by decide)
          · rw [← y2 q hq, FM_a a2 (by decide)]
        · refine ⟨?_, fun q hq => ?_⟩
          · show gI w2 125 0 = gI w0 19 0
            rw [a3]; exact FM_i f0 (by decide)
          · show (gA w2 126).getD q 0 = (gA w0 20).getD q 0
            rw [a4 q hq, FM_a f0 (by decide)]
theorem F71_107_1 {L : Nat} (hS : SK w) (h0 : 0 ≤ (gI w 1 2).toInt) (h2 : (gI w 1 2).toInt ≤ 2) (h1 : 0 ≤ (gI w 1 3).toInt) (h3 : (gI w 1 3).toInt ≤ 3) (hl : (gI w 1 5).toInt = L) (h6 : L ≤ 600) (h : PS X k 71 0 [.ref 107, .ref 1, pm_dead] [] w r w') : r = none ∧ FM tF107 tA107 w w' ∧ gI w' 107 2 = gI w 1 2 ∧ gI w' 107 3 = gI w 1 3 ∧ gI w' 107 5 = gI w 1 5 ∧ gI w' 107 6 = gI w 1 6 ∧ gI w' 107 7 = gI w 1 7 ∧ (∀ j, j < L → (gA w' 110).getD j 0 = (gA w 4).getD j 0) ∧ (∀ u, u < (gI w 1 2).toInt.toNat → ∀ k, vcl w' (111 + 5 * u) k = vcl w (5 + 5 * u) k) ∧ (∀ u, u < (gI w 1 3).toInt.toNat → gI w' (121 + 2 * u) 0 = gI w (15 + 2 * u) 0 ∧ ∀ q, q < 270 → (gA w' (122 + 2 * u)).getD q 0 = (gA w (16 + 2 * u)).getD q 0) := by
  cases k with
  | zero => exact (PS_0 h).elim
  | succ k =>
    have h := U71_0 hS h _ rfl _ rfl
    have fa : FM tF107 tA107 w (sI w 107 2 (gI w 1 2)) := FM_sI hS (by decide)
    obtain ⟨w2, e2⟩ : ∃ w2, w2 = sI (sI w 107 2 (gI w 1 2)) 107 3 (gI (sI w 107 2 (gI w 1 2)) 1 3) := ⟨_, rfl⟩
    rw [← e2] at h
    have fb : FM tF107 tA107 w w2 := FM_trans fa (by rw [e2]; exact FM_sI fa.2.2.2 (by decide))
    have g2 : gI w2 107 2 = gI w 1 2 := by rw [e2, gI_sI_ne (by decide), gI_sI (SK_isF hS (by decide +kernel))]
    have g3 : gI w2 107 3 = gI w 1 3 := by rw [e2, gI_sI (SK_isF fa.2.2.2 (by decide +kernel)), gI_sI_ne (by decide)]
    obtain ⟨k3, w3, f3, a1, a2, a3, h⟩ := L71v_107_1 (cN := (gI w 1 2).toInt.toNat) hS (by omega) (by omega) _ w2 0 0 fb g2 z32 (Nat.zero_le _) (fun u hu => absurd hu (Nat.not_lt_zero u)) h
    obtain ⟨k4, w4, i4, f4, b1, b2, b3, b4, h⟩ := L71r_107_1 (cN := (gI w 1 3).toInt.toNat) (vN := (gI w 1 2).toInt.toNat) hS (by omega) (by omega) (by omega) _ w3 0 0 f3 (a2.trans g3) a1 z32 (Nat.zero_le _) a3 (fun u hu => absurd hu (Nat.not_lt_zero u)) h
    have S4 := f4.2.2.2
    obtain ⟨hc, h⟩ := h _ rfl
    have h := h _ rfl _ rfl _ rfl
    obtain ⟨w5, e5⟩ : ∃ w5, w5 = sI w4 107 5 (gI w4 1 5) := ⟨_, rfl⟩
    rw [← e5] at h hc
    have f5 : FM [(107, 5)] [] w4 w5 := by rw [e5]; exact FM_sI S4 (by decide)
    have S5 := f5.2.2.2
    have g5 : gI w5 107 5 = gI w 1 5 := by rw [e5, gI_sI (SK_isF S4 (by decide +kernel))]; exact FM_i f4 (by decide)
    have r1 : gR w5 1 4 = 4 := sk_fix S5 (by decide +kernel) (by decide)
    have r2 : gR w5 107 4 = 110 := sk_fix S5 (by decide +kernel) (by decide)
    rw [r1, r2, g5] at h hc
    obtain ⟨w6, e6⟩ : ∃ w6, w6 = cpS w5 4 110 0 0 (gI w 1 5) := ⟨_, rfl⟩
    rw [← e6] at h
    have f6 : FM [] [110] w5 w6 := by rw [e6]; exact FM_cpS hc S5 (by decide)
    have S6 := f6.2.2.2
    have t6 : ∀ j, j < L → (gA w6 110).getD j 0 = (gA w 4).getD j 0 := by
      intro j hj
      rw [e6, cpS_A hc (SK_isA S5 (by decide +kernel)), hl, z32, cpy_getF (by rw [SK_len S5 (a := 4) (n := 600) (by decide +kernel) (by decide)]; show 0 + L ≤ 600; omega) (by rw [SK_len S5 (a := 110) (n := 600) (by decide +kernel) (by decide)]; show 0 + L ≤ 600; omega), if_pos (by show 0 ≤ j ∧ j < 0 + L; omega)]
      show (gA w5 4).getD (0 + (j - 0)) 0 = _
      rw [show 0 + (j - 0) = j by omega, FM_a f5 (by intro z; cases z), FM_a f4 (by decide)]
    obtain ⟨w7, e7⟩ : ∃ w7, w7 = sI w6 107 6 (gI w6 1 6) := ⟨_, rfl⟩
    rw [← e7] at h
    have f7 : FM [(107, 6)] [] w6 w7 := by rw [e7]; exact FM_sI S6 (by decide)
    have S7 := f7.2.2.2
    have f8 : FM [(107, 7)] [] w7 w' := by rw [h.2]; exact FM_sI S7 (by decide)
    have s6 : gI w6 1 6 = gI w 1 6 := by rw [FM_i f6 (by intro z; cases z), FM_i f5 (by decide), FM_i f4 (by decide)]
    have s7 : gI w7 1 7 = gI w 1 7 := by rw [FM_i f7 (by decide), FM_i f6 (by intro z; cases z), FM_i f5 (by decide), FM_i f4 (by decide)]
    have fx : FM [(107, 5), (107, 6), (107, 7)] [110] w4 w' := FM_trans (FM_mono f5 (by decide) (by decide)) (FM_trans (FM_mono f6 (by intro x hx; cases hx) (by decide)) (FM_trans (FM_mono f7 (by decide) (by decide)) (FM_mono f8 (by decide) (by decide))))
    refine ⟨h.1, FM_trans f4 (FM_mono fx (by decide) (by decide)), (FM_i fx (by decide)).trans b1, (FM_i fx (by decide)).trans b2, ?_, ?_, ?_, fun j hj => ?_, fun u hu k => ?_, fun u hu => ?_⟩
    · rw [FM_i f8 (by decide), FM_i f7 (by decide), FM_i f6 (by intro z; cases z)]; exact g5
    · rw [FM_i f8 (by decide), e7, gI_sI (SK_isF S6 (by decide +kernel))]; exact s6
    · rw [h.2, gI_sI (SK_isF S7 (by decide +kernel))]; exact s7
    · rw [FM_a f8 (by intro z; cases z), FM_a f7 (by intro z; cases z)]; exact t6 j hj
    · rw [← b3 u hu k]
      have cu : u = 0 ∨ u = 1 := by omega
      rcases cu with rfl | rfl
      · exact vcl_FMv S4 fx (by decide +kernel) (by decide) (by decide) (by decide) (by decide) (by decide) (by decide) (by decide) k
      · exact vcl_FMv S4 fx (by decide +kernel) (by decide) (by decide) (by decide) (by decide) (by decide) (by decide) (by decide) k
    · obtain ⟨y1, y2⟩ := b4 u hu
      have cu : u = 0 ∨ u = 1 ∨ u = 2 := by omega
      refine ⟨?_, fun q hq => ?_⟩
      · rw [← y1]
        rcases cu with rfl | rfl | rfl <;> exact FM_i fx (by decide)
      · rw [← y2 q hq]
        rcases cu with rfl | rfl | rfl <;> rw [FM_a fx (by decide)]
/-- a told object copied is told alike -/
theorem TE71_107_1 {a : Nat → Int32} (hS : SK w) (hTE : TE w 1 a) (h : PS X k 71 0 [.ref 107, .ref 1, pm_dead] [] w r w') : r = none ∧ FM tF107 tA107 w w' ∧ TE w' 107 a := by
  obtain ⟨⟨r1, r2, r3, r4, r5, r6, r7⟩, t1, t2, t3, t4, t5, t6, t7, t8⟩ := hTE
  obtain ⟨z1, z2, z3, z4, z5, z6, z7, z8, z9, z10⟩ := F71_107_1 (L := (a 2).toInt.toNat) hS (by rw [t1]; exact r1) (by rw [t1]; exact r2) (by rw [t2]; exact r3) (by rw [t2]; exact r4) (by rw [t3]; omega) (by omega) h
  rw [t1] at z9
  rw [t2] at z10
  refine ⟨z1, z2, ⟨r1, r2, r3, r4, r5, r6, r7⟩, z3.trans t1, z4.trans t2, z5.trans t3, z6.trans t4, z7.trans t5, fun j hj => ?_, fun u hu k hk => ?_, fun u hu => ?_⟩
  · show BY ((gA w' 110).getD j 0) _
    rw [z8 j hj]
    exact t6 j hj
  · exact (z9 u hu k).trans (t7 u hu k hk)
  · obtain ⟨y1, y2⟩ := z10 u hu
    obtain ⟨x1, x2⟩ := t8 u hu
    have ra := r7 u hu
    exact ⟨y1.trans x1, fun q hq => (y2 q (by omega)).trans (x2 q hq)⟩
theorem L71v_127_1 {w0 : pm_W} {cnt : Int32} {cN : Nat} (hS0 : SK w0) (hc : cnt.toInt = cN) (hc2 : cN ≤ 2) : ∀ (k : Nat) (w : pm_W) (t : Nat) (i2 : Int32), FM tF127 tA127 w0 w → gI w 127 2 = cnt → i2.toInt = t → t ≤ cN → (∀ u, u < t → ∀ k, vcl w (131 + 5 * u) k = vcl w0 (5 + 5 * u) k) → PS X k 71 18 [.ref 127, .ref 1, .int i2] [] w r w' → ∃ (k' : Nat) (w1 : pm_W), FM tF127 tA127 w0 w1 ∧ gI w1 127 2 = cnt ∧ gI w1 127 3 = gI w 127 3 ∧ (∀ u, u < cN → ∀ k, vcl w1 (131 + 5 * u) k = vcl w0 (5 + 5 * u) k) ∧ PS X k' 71 49 [.ref 127, .ref 1, .int 0] [] w1 r w' := by
  intro k
  induction k with
  | zero => intro w t i2 f0 gc h2 ht hv h; exact (PS_0 h).elim
  | succ k ih =>
    intro w t i2 f0 gc h2 ht hv h
    have hS := f0.2.2.2
    have h := U71_18 hS h
    rw [gc] at h
    by_cases c : cnt ≤ i2
    · rw [if_pos c] at h
      rw [Int32.le_iff_toInt_le, hc, h2] at c
      exact ⟨k, w, f0, gc, rfl, fun u hu => hv u (by omega), h⟩
    · rw [if_neg c] at h
      rw [Int32.le_iff_toInt_le, hc, h2] at c
      obtain ⟨_, _, r1, w2, q1, q2⟩ := h
      have e1 : gR w 127 0 = 128 := sk_fix hS (by decide +kernel) (by decide)
      have e2 : gR w 1 0 = 2 := sk_fix hS (by decide +kernel) (by decide)
      have k1 : gQ w 128 = [some 131, some 136] := by rw [SK_Q hS]; decide +kernel
      have k2 : gQ w 2 = [some 5, some 10] := by rw [SK_Q hS]; decide +kernel
      unfold qG at q1
      rw [e1, e2, k1, k2, i_nat h2] at q1
      have ct : t = 0 ∨ t = 1 := by omega
      have done : ∀ (fm : FM tF127 tA127 w w2), r1 = none → gI w2 127 2 = gI w 127 2 → gI w2 127 3 = gI w 127 3 → (∀ u, u < t + 1 → ∀ k, vcl w2 (131 + 5 * u) k = vcl w0 (5 + 5 * u) k) → ∃ (k' : Nat) (w1 : pm_W), FM tF127 tA127 w0 w1 ∧ gI w1 127 2 = cnt ∧ gI w1 127 3 = gI w 127 3 ∧ (∀ u, u < cN → ∀ k, vcl w1 (131 + 5 * u) k = vcl w0 (5 + 5 * u) k) ∧ PS X k' 71 49 [.ref 127, .ref 1, .int 0] [] w1 r w' := by
        intro fm er z2 z3 z4
        obtain ⟨k', w1, y1, y2, y3, y4⟩ := ih w2 (t + 1) (i2 + 1) (FM_trans f0 fm) (z2.trans gc) (by rw [zi_inc (n := 2) (by omega) (by omega), h2]; rfl) (by omega) z4 (q2 er fm.2.2.2)
        exact ⟨k', w1, y1, y2, y3.trans z3, y4⟩
      rcases ct with rfl | rfl
      · obtain ⟨a1, a2, a3⟩ := F56 hS (a := 131) (s := 5) (by decide +kernel) (by decide +kernel) (by decide) q1
        refine done (FM_mono a2 (by decide) (by decide)) a1 (FM_i a2 (by decide)) (FM_i a2 (by decide)) (fun u hu k => ?_)
        have eu : u = 0 := by omega
        subst eu
        rw [show 131 + 5 * 0 = 131 from rfl, show 5 + 5 * 0 = 5 from rfl, a3 k]
        exact vcl_FMv hS0 f0 (by decide +kernel) (by decide) (by decide) (by decide) (by decide) (by decide) (by decide) (by decide) k
      · obtain ⟨a1, a2, a3⟩ := F56 hS (a := 136) (s := 10) (by decide +kernel) (by decide +kernel) (by decide) q1
        refine done (FM_mono a2 (by decide) (by decide)) a1 (FM_i a2 (by decide)) (FM_i a2 (by decide)) (fun u hu k => ?_)
        have cu : u = 0 ∨ u = 1 := by omega
        rcases cu with rfl | rfl
        · rw [← hv 0 (by omega) k]
          exact vcl_FMv hS a2 (by decide +kernel) (by decide) (by decide) (by decide) (by decide) (by decide) (by decide) (by decide) k
        · rw [show 131 + 5 * 1 = 136 from rfl, show 5 + 5 * 1 = 10 from rfl, a3 k]
          exact vcl_FMv hS0 f0 (by decide +kernel) (by decide) (by decide) (by decide) (by decide) (by decide) (by decide) (by decide) k
theorem L71r_127_1 {w0 : pm_W} {cnt vc : Int32} {cN vN : Nat} (hS0 : SK w0) (hc : cnt.toInt = cN) (hc2 : cN ≤ 3) (hv2 : vN ≤ 2) : ∀ (k : Nat) (w : pm_W) (t : Nat) (i2 : Int32), FM tF127 tA127 w0 w → gI w 127 3 = cnt → gI w 127 2 = vc → i2.toInt = t → t ≤ cN → (∀ u, u < vN → ∀ k, vcl w (131 + 5 * u) k = vcl w0 (5 + 5 * u) k) → (∀ u, u < t → gI w (141 + 2 * u) 0 = gI w0 (15 + 2 * u) 0 ∧ ∀ q, q < 270 → (gA w (142 + 2 * u)).getD q 0 = (gA w0 (16 + 2 * u)).getD q 0) → PS X k 71 49 [.ref 127, .ref 1, .int i2] [] w r w' → ∃ (k' : Nat) (w1 : pm_W) (i2' : Int32), FM tF127 tA127 w0 w1 ∧ gI w1 127 2 = vc ∧ gI w1 127 3 = cnt ∧ (∀ u, u < vN → ∀ k, vcl w1 (131 + 5 * u) k = vcl w0 (5 + 5 * u) k) ∧ (∀ u, u < cN → gI w1 (141 + 2 * u) 0 = gI w0 (15 + 2 * u) 0 ∧ ∀ q, q < 270 → (gA w1 (142 + 2 * u)).getD q 0 = (gA w0 (16 + 2 * u)).getD q 0) ∧ (∀ w2 : pm_W, w2 = sI w1 127 5 (gI w1 1 5) → (cpI w2 (gR w2 1 4) (gR w2 127 4) 0 0 (gI w2 127 5) ∧ (∀ w3 : pm_W, w3 = cpS w2 (gR w2 1 4) (gR w2 127 4) 0 0 (gI w2 127 5) → (∀ w4 : pm_W, w4 = sI w3 127 6 (gI w3 1 6) → (∀ w5 : pm_W, w5 = sI w4 127 7 (gI w4 1 7) → (r = none ∧ w' = w5)))))) := by
  intro k
  induction k with
  | zero => intro w t i2 f0 gc gv h2 ht hvv hv h; exact (PS_0 h).elim
  | succ k ih =>
    intro w t i2 f0 gc gv h2 ht hvv hv h
    have hS := f0.2.2.2
    have h := U71_49 hS h
    rw [gc] at h
    by_cases c : cnt ≤ i2
    · rw [if_pos c] at h
      rw [Int32.le_iff_toInt_le, hc, h2] at c
      exact ⟨k, w, i2, f0, gv, gc, hvv, fun u hu => hv u (by omega), h⟩
    · rw [if_neg c] at h
      rw [Int32.le_iff_toInt_le, hc, h2] at c
      obtain ⟨_, _, r1, w2, q1, q2⟩ := h
      have e1 : gR w 127 1 = 129 := sk_fix hS (by decide +kernel) (by decide)
      have e2 : gR w 1 1 = 3 := sk_fix hS (by decide +kernel) (by decide)
      have k1 : gQ w 129 = [some 141, some 143, some 145] := by rw [SK_Q hS]; decide +kernel
      have k2 : gQ w 3 = [some 15, some 17, some 19] := by rw [SK_Q hS]; decide +kernel
      unfold qG at q1
      rw [e1, e2, k1, k2, i_nat h2] at q1
      have ct : t = 0 ∨ t = 1 ∨ t = 2 := by omega
      have vcl_x : ∀ {fs : List (Nat × Nat)} {as : List Nat} (fm : FM fs as w w2), (∀ p, p ∈ [(131, 0), (131, 1), (131, 2), (136, 0), (136, 1), (136, 2)] → p ∉ fs) → (∀ x, x ∈ [131 + 1, 131 + 2, 131 + 3, 131 + 4, 136 + 1, 136 + 2, 136 + 3, 136 + 4] → x ∉ as) → ∀ u, u < vN → ∀ k, vcl w2 (131 + 5 * u) k = vcl w0 (5 + 5 * u) k := by
        intro fs as fm h1 h2 u hu k
        rw [← hvv u hu k]
        have cu : u = 0 ∨ u = 1 := by omega
        rcases cu with rfl | rfl
        · exact vcl_FMv hS fm (by decide +kernel) (h1 _ (by decide)) (h1 _ (by decide)) (h1 _ (by decide)) (h2 _ (by decide)) (h2 _ (by decide)) (h2 _ (by decide)) (h2 _ (by decide)) k
        · exact vcl_FMv hS fm (by decide +kernel) (h1 _ (by decide)) (h1 _ (by decide)) (h1 _ (by decide)) (h2 _ (by decide)) (h2 _ (by decide)) (h2 _ (by decide)) (h2 _ (by decide)) k
      have done : ∀ (fm : FM tF127 tA127 w w2), r1 = none → gI w2 127 3 = gI w 127 3 → (∀ x : Nat, x = 0 → gI w2 127 2 = gI w 127 2 ∧ gA w2 130 = gA w 130 ∧ gI w2 127 5 = gI w 127 5 ∧ gI w2 127 6 = gI w 127 6 ∧ gI w2 127 7 = gI w 127 7) → (∀ u, u < vN → ∀ k, vcl w2 (131 + 5 * u) k = vcl w0 (5 + 5 * u) k) → (∀ u, u < t + 1 → gI w2 (141 + 2 * u) 0 = gI w0 (15 + 2 * u) 0 ∧ ∀ q, q < 270 → (gA w2 (142 + 2 * u)).getD q 0 = (gA w0 (16 + 2 * u)).getD q 0) → _ := fun fm er z1 z2 z3 z4 => ih w2 (t + 1) (i2 + 1) (FM_trans f0 fm) (z1.trans gc) ((z2 0 rfl).1.trans gv) (by rw [zi_inc (n := 3) (by omega) (by omega), h2]; rfl) (by omega) z3 z4 (q2 er fm.2.2.2)
      rcases ct with rfl | rfl | rfl
      · obtain ⟨a1, a2, a3, a4⟩ := F57 hS (a := 141) (s := 15) (by decide +kernel) (by decide +kernel) (by decide) q1
        refine done (FM_mono a2 (by decide) (by decide)) a1 (FM_i a2 (by decide)) (fun x hx => ⟨FM_i a2 (by decide), FM_a a2 (by decide), FM_i a2 (by decide), FM_i a2 (by decide), FM_i a2 (by decide)⟩) (fun u hu k => vcl_x a2 (by decide) (by decide) u hu k) (fun u hu => ?_)
        have cu : u = 0 := by omega
        subst cu
        · refine ⟨?_, fun q hq => ?_⟩
          · show gI w2 141 0 = gI w0 15 0
            rw [a3]; exact FM_i f0 (by decide)
          · show (gA w2 142).getD q 0 = (gA w0 16).getD q 0
            rw [a4 q hq, FM_a f0 (by decide)]
      · obtain ⟨a1, a2, a3, a4⟩ := F57 hS (a := 143) (s := 17) (by decide +kernel) (by decide +kernel) (by decide) q1
        refine done (FM_mono a2 (by decide) (by decide)) a1 (FM_i a2 (by decide)) (fun x hx => ⟨FM_i a2 (by decide), FM_a a2 (by decide), FM_i a2 (by decide), FM_i a2 (by decide), FM_i a2 (by decide)⟩) (fun u hu k => vcl_x a2 (by decide) (by decide) u hu k) (fun u hu => ?_)
        have cu : u = 0 ∨ u = 1 := by omega
        rcases cu with rfl | rfl
        · obtain ⟨y1, y2⟩ := hv 0 (by omega)
          refine ⟨?_, fun q hq => ?_⟩
          · rw [← y1]; exact FM_i a2 (by decide)
          · rw [← y2 q hq, FM_a a2 (by decide)]
        · refine ⟨?_, fun q hq => ?_⟩
          · show gI w2 143 0 = gI w0 17 0
            rw [a3]; exact FM_i f0 (by decide)
          · show (gA w2 144).getD q 0 = (gA w0 18).getD q 0
            rw [a4 q hq, FM_a f0 (by decide)]
      · obtain ⟨a1, a2, a3, a4⟩ := F57 hS (a := 145) (s := 19) (by decide +kernel) (by decide +kernel) (by decide) q1
        refine done (FM_mono a2 (by decide) (by decide)) a1 (FM_i a2 (by decide)) (fun x hx => ⟨FM_i a2 (by decide), FM_a a2 (by decide), FM_i a2 (by decide), FM_i a2 (by decide), FM_i a2 (by decide)⟩) (fun u hu k => vcl_x a2 (by decide) (by decide) u hu k) (fun u hu => ?_)
        have cu : u = 0 ∨ u = 1 ∨ u = 2 := by omega
        rcases cu with rfl | rfl | rfl
        · obtain ⟨y1, y2⟩ := hv 0 (by omega)
          refine ⟨?_, fun q hq => ?_⟩
          · rw [← y1]; exact FM_i a2 (by decide)
          · rw [← y2 q hq, FM_a a2 (by decide)]
        · obtain ⟨y1, y2⟩ := hv 1 (by omega)
          refine ⟨?_, fun q hq => ?_⟩
          · rw [← y1]; exact FM_i a2 (by decide)
          · rw [← y2 q hq, FM_a a2 (by decide)]
        · refine ⟨?_, fun q hq => ?_⟩
          · show gI w2 145 0 = gI w0 19 0
            rw [a3]; exact FM_i f0 (by decide)
          · show (gA w2 146).getD q 0 = (gA w0 20).getD q 0
            rw [a4 q hq, FM_a f0 (by decide)]
theorem F71_127_1 {L : Nat} (hS : SK w) (h0 : 0 ≤ (gI w 1 2).toInt) (h2 : (gI w 1 2).toInt ≤ 2) (h1 : 0 ≤ (gI w 1 3).toInt) (h3 : (gI w 1 3).toInt ≤ 3) (hl : (gI w 1 5).toInt = L) (h6 : L ≤ 600) (h : PS X k 71 0 [.ref 127, .ref 1, pm_dead] [] w r w') : r = none ∧ FM tF127 tA127 w w' ∧ gI w' 127 2 = gI w 1 2 ∧ gI w' 127 3 = gI w 1 3 ∧ gI w' 127 5 = gI w 1 5 ∧ gI w' 127 6 = gI w 1 6 ∧ gI w' 127 7 = gI w 1 7 ∧ (∀ j, j < L → (gA w' 130).getD j 0 = (gA w 4).getD j 0) ∧ (∀ u, u < (gI w 1 2).toInt.toNat → ∀ k, vcl w' (131 + 5 * u) k = vcl w (5 + 5 * u) k) ∧ (∀ u, u < (gI w 1 3).toInt.toNat → gI w' (141 + 2 * u) 0 = gI w (15 + 2 * u) 0 ∧ ∀ q, q < 270 → (gA w' (142 + 2 * u)).getD q 0 = (gA w (16 + 2 * u)).getD q 0) := by
  cases k with
  | zero => exact (PS_0 h).elim
  | succ k =>
    have h := U71_0 hS h _ rfl _ rfl
    have fa : FM tF127 tA127 w (sI w 127 2 (gI w 1 2)) := FM_sI hS (by decide)
    obtain ⟨w2, e2⟩ : ∃ w2, w2 = sI (sI w 127 2 (gI w 1 2)) 127 3 (gI (sI w 127 2 (gI w 1 2)) 1 3) := ⟨_, rfl⟩
    rw [← e2] at h
    have fb : FM tF127 tA127 w w2 := FM_trans fa (by rw [e2]; exact FM_sI fa.2.2.2 (by decide))
    have g2 : gI w2 127 2 = gI w 1 2 := by rw [e2, gI_sI_ne (by decide), gI_sI (SK_isF hS (by decide +kernel))]
    have g3 : gI w2 127 3 = gI w 1 3 := by rw [e2, gI_sI (SK_isF fa.2.2.2 (by decide +kernel)), gI_sI_ne (by decide)]
    obtain ⟨k3, w3, f3, a1, a2, a3, h⟩ := L71v_127_1 (cN := (gI w 1 2).toInt.toNat) hS (by omega) (by omega) _ w2 0 0 fb g2 z32 (Nat.zero_le _) (fun u hu => absurd hu (Nat.not_lt_zero u)) h
    obtain ⟨k4, w4, i4, f4, b1, b2, b3, b4, h⟩ := L71r_127_1 (cN := (gI w 1 3).toInt.toNat) (vN := (gI w 1 2).toInt.toNat) hS (by omega) (by omega) (by omega) _ w3 0 0 f3 (a2.trans g3) a1 z32 (Nat.zero_le _) a3 (fun u hu => absurd hu (Nat.not_lt_zero u)) h
    have S4 := f4.2.2.2
    obtain ⟨hc, h⟩ := h _ rfl
    have h := h _ rfl _ rfl _ rfl
    obtain ⟨w5, e5⟩ : ∃ w5, w5 = sI w4 127 5 (gI w4 1 5) := ⟨_, rfl⟩
    rw [← e5] at h hc
    have f5 : FM [(127, 5)] [] w4 w5 := by rw [e5]; exact FM_sI S4 (by decide)
    have S5 := f5.2.2.2
    have g5 : gI w5 127 5 = gI w 1 5 := by rw [e5, gI_sI (SK_isF S4 (by decide +kernel))]; exact FM_i f4 (by decide)
    have r1 : gR w5 1 4 = 4 := sk_fix S5 (by decide +kernel) (by decide)
    have r2 : gR w5 127 4 = 130 := sk_fix S5 (by decide +kernel) (by decide)
    rw [r1, r2, g5] at h hc
    obtain ⟨w6, e6⟩ : ∃ w6, w6 = cpS w5 4 130 0 0 (gI w 1 5) := ⟨_, rfl⟩
    rw [← e6] at h
    have f6 : FM [] [130] w5 w6 := by rw [e6]; exact FM_cpS hc S5 (by decide)
    have S6 := f6.2.2.2
    have t6 : ∀ j, j < L → (gA w6 130).getD j 0 = (gA w 4).getD j 0 := by
      intro j hj
      rw [e6, cpS_A hc (SK_isA S5 (by decide +kernel)), hl, z32, cpy_getF (by rw [SK_len S5 (a := 4) (n := 600) (by decide +kernel) (by decide)]; show 0 + L ≤ 600; omega) (by rw [SK_len S5 (a := 130) (n := 600) (by decide +kernel) (by decide)]; show 0 + L ≤ 600; omega), if_pos (by show 0 ≤ j ∧ j < 0 + L; omega)]
      show (gA w5 4).getD (0 + (j - 0)) 0 = _
      rw [show 0 + (j - 0) = j by omega, FM_a f5 (by intro z; cases z), FM_a f4 (by decide)]
    obtain ⟨w7, e7⟩ : ∃ w7, w7 = sI w6 127 6 (gI w6 1 6) := ⟨_, rfl⟩
    rw [← e7] at h
    have f7 : FM [(127, 6)] [] w6 w7 := by rw [e7]; exact FM_sI S6 (by decide)
    have S7 := f7.2.2.2
    have f8 : FM [(127, 7)] [] w7 w' := by rw [h.2]; exact FM_sI S7 (by decide)
    have s6 : gI w6 1 6 = gI w 1 6 := by rw [FM_i f6 (by intro z; cases z), FM_i f5 (by decide), FM_i f4 (by decide)]
    have s7 : gI w7 1 7 = gI w 1 7 := by rw [FM_i f7 (by decide), FM_i f6 (by intro z; cases z), FM_i f5 (by decide), FM_i f4 (by decide)]
    have fx : FM [(127, 5), (127, 6), (127, 7)] [130] w4 w' := FM_trans (FM_mono f5 (by decide) (by decide)) (FM_trans (FM_mono f6 (by intro x hx; cases hx) (by decide)) (FM_trans (FM_mono f7 (by decide) (by decide)) (FM_mono f8 (by decide) (by decide))))
    refine ⟨h.1, FM_trans f4 (FM_mono fx (by decide) (by decide)), (FM_i fx (by decide)).trans b1, (FM_i fx (by decide)).trans b2, ?_, ?_, ?_, fun j hj => ?_, fun u hu k => ?_, fun u hu => ?_⟩
    · rw [FM_i f8 (by decide), FM_i f7 (by decide), FM_i f6 (by intro z; cases z)]; exact g5
    · rw [FM_i f8 (by decide), e7, gI_sI (SK_isF S6 (by decide +kernel))]; exact s6
    · rw [h.2, gI_sI (SK_isF S7 (by decide +kernel))]; exact s7
    · rw [FM_a f8 (by intro z; cases z), FM_a f7 (by intro z; cases z)]; exact t6 j hj
    · rw [← b3 u hu k]
      have cu : u = 0 ∨ u = 1 := by omega
      rcases cu with rfl | rfl
      · exact vcl_FMv S4 fx (by decide +kernel) (by decide) (by decide) (by decide) (by decide) (by decide) (by decide) (by decide) k
      · exact vcl_FMv S4 fx (by decide +kernel) (by decide) (by decide) (by decide) (by decide) (by decide) (by decide) (by decide) k
    · obtain ⟨y1, y2⟩ := b4 u hu
      have cu : u = 0 ∨ u = 1 ∨ u = 2 := by omega
      refine ⟨?_, fun q hq => ?_⟩
      · rw [← y1]
        rcases cu with rfl | rfl | rfl <;> exact FM_i fx (by decide)
      · rw [← y2 q hq]
        rcases cu with rfl | rfl | rfl <;> rw [FM_a fx (by decide)]
/-- a told object copied is told alike -/
theorem TE71_127_1 {a : Nat → Int32} (hS : SK w) (hTE : TE w 1 a) (h : PS X k 71 0 [.ref 127, .ref 1, pm_dead] [] w r w') : r = none ∧ FM tF127 tA127 w w' ∧ TE w' 127 a := by
  obtain ⟨⟨r1, r2, r3, r4, r5, r6, r7⟩, t1, t2, t3, t4, t5, t6, t7, t8⟩ := hTE
  obtain ⟨z1, z2, z3, z4, z5, z6, z7, z8, z9, z10⟩ := F71_127_1 (L := (a 2).toInt.toNat) hS (by rw [t1]; exact r1) (by rw [t1]; exact r2) (by rw [t2]; exact r3) (by rw [t2]; exact r4) (by rw [t3]; omega) (by omega) h
  rw [t1] at z9
  rw [t2] at z10
  refine ⟨z1, z2, ⟨r1, r2, r3, r4, r5, r6, r7⟩, z3.trans t1, z4.trans t2, z5.trans t3, z6.trans t4, z7.trans t5, fun j hj => ?_, fun u hu k hk => ?_, fun u hu => ?_⟩
  · show BY ((gA w' 130).getD j 0) _
    rw [z8 j hj]
    exact t6 j hj
  · exact (z9 u hu k).trans (t7 u hu k hk)
  · obtain ⟨y1, y2⟩ := z10 u hu
    obtain ⟨x1, x2⟩ := t8 u hu
    have ra := r7 u hu
    exact ⟨y1.trans x1, fun q hq => (y2 q (by omega)).trans (x2 q hq)⟩
theorem L71v_1_87 {w0 : pm_W} {cnt : Int32} {cN : Nat} (hS0 : SK w0) (hc : cnt.toInt = cN) (hc2 : cN ≤ 2) : ∀ (k : Nat) (w : pm_W) (t : Nat) (i2 : Int32), FM tF1 tA1 w0 w → gI w 1 2 = cnt → i2.toInt = t → t ≤ cN → (∀ u, u < t → ∀ k, vcl w (5 + 5 * u) k = vcl w0 (91 + 5 * u) k) → PS X k 71 18 [.ref 1, .ref 87, .int i2] [] w r w' → ∃ (k' : Nat) (w1 : pm_W), FM tF1 tA1 w0 w1 ∧ gI w1 1 2 = cnt ∧ gI w1 1 3 = gI w 1 3 ∧ (∀ u, u < cN → ∀ k, vcl w1 (5 + 5 * u) k = vcl w0 (91 + 5 * u) k) ∧ PS X k' 71 49 [.ref 1, .ref 87, .int 0] [] w1 r w' := by
  intro k
  induction k with
  | zero => intro w t i2 f0 gc h2 ht hv h; exact (PS_0 h).elim
  | succ k ih =>
    intro w t i2 f0 gc h2 ht hv h
    have hS := f0.2.2.2
    have h := U71_18 hS h
    rw [gc] at h
    by_cases c : cnt ≤ i2
    · rw [if_pos c] at h
      rw [Int32.le_iff_toInt_le, hc, h2] at c
      exact ⟨k, w, f0, gc, rfl, fun u hu => hv u (by omega), h⟩
    · rw [if_neg c] at h
      rw [Int32.le_iff_toInt_le, hc, h2] at c
      obtain ⟨_, _, r1, w2, q1, q2⟩ := h
      have e1 : gR w 1 0 = 2 := sk_fix hS (by decide +kernel) (by decide)
      have e2 : gR w 87 0 = 88 := sk_fix hS (by decide +kernel) (by decide)
      have k1 : gQ w 2 = [some 5, some 10] := by rw [SK_Q hS]; decide +kernel
      have k2 : gQ w 88 = [some 91, some 96] := by rw [SK_Q hS]; decide +kernel
      unfold qG at q1
      rw [e1, e2, k1, k2, i_nat h2] at q1
      have ct : t = 0 ∨ t = 1 := by omega
      have done : ∀ (fm : FM tF1 tA1 w w2), r1 = none → gI w2 1 2 = gI w 1 2 → gI w2 1 3 = gI w 1 3 → (∀ u, u < t + 1 → ∀ k, vcl w2 (5 + 5 * u) k = vcl w0 (91 + 5 * u) k) → ∃ (k' : Nat) (w1 : pm_W), FM tF1 tA1 w0 w1 ∧ gI w1 1 2 = cnt ∧ gI w1 1 3 = gI w 1 3 ∧ (∀ u, u < cN → ∀ k, vcl w1 (5 + 5 * u) k = vcl w0 (91 + 5 * u) k) ∧ PS X k' 71 49 [.ref 1, .ref 87, .int 0] [] w1 r w' := by
        intro fm er z2 z3 z4
        obtain ⟨k', w1, y1, y2, y3, y4⟩ := ih w2 (t + 1) (i2 + 1) (FM_trans f0 fm) (z2.trans gc) (by rw [zi_inc (n := 2) (by omega) (by omega), h2]; rfl) (by omega) z4 (q2 er fm.2.2.2)
        exact ⟨k', w1, y1, y2, y3.trans z3, y4⟩
      rcases ct with rfl | rfl
      · obtain ⟨a1, a2, a3⟩ := F56 hS (a := 5) (s := 91) (by decide +kernel) (by decide +kernel) (by decide) q1
        refine done (FM_mono a2 (by decide) (by decide)) a1 (FM_i a2 (by decide)) (FM_i a2 (by decide)) (fun u hu k => ?_)
        have eu : u = 0 := by omega
        subst eu
        rw [show 5 + 5 * 0 = 5 from rfl, show 91 + 5 * 0 = 91 from rfl, a3 k]
        exact vcl_FMv hS0 f0 (by decide +kernel) (by decide) (by decide) (by decide) (by decide) (by decide) (by decide) (by decide) k
      · obtain ⟨a1, a2, a3⟩ := F56 hS (a := 10) (s := 96) (by decide +kernel) (by decide +kernel) (by decide) q1
        refine done (FM_mono a2 (by decide) (by decide)) a1 (FM_i a2 (by decide)) (FM_i a2 (by decide)) (fun u hu k => ?_)
        have cu : u = 0 ∨ u = 1 := by omega
        rcases cu with rfl | rfl
        · rw [← hv 0 (by omega) k]
          exact vcl_FMv hS a2 (by decide +kernel) (by decide) (by decide) (by decide) (by decide) (by decide) (by decide) (by decide) k
        · rw [show 5 + 5 * 1 = 10 from rfl, show 91 + 5 * 1 = 96 from rfl, a3 k]
          exact vcl_FMv hS0 f0 (by decide +kernel) (by decide) (by decide) (by decide) (by decide) (by decide) (by decide) (by decide) k
theorem L71r_1_87 {w0 : pm_W} {cnt vc : Int32} {cN vN : Nat} (hS0 : SK w0) (hc : cnt.toInt = cN) (hc2 : cN ≤ 3) (hv2 : vN ≤ 2) : ∀ (k : Nat) (w : pm_W) (t : Nat) (i2 : Int32), FM tF1 tA1 w0 w → gI w 1 3 = cnt → gI w 1 2 = vc → i2.toInt = t → t ≤ cN → (∀ u, u < vN → ∀ k, vcl w (5 + 5 * u) k = vcl w0 (91 + 5 * u) k) → (∀ u, u < t → gI w (15 + 2 * u) 0 = gI w0 (101 + 2 * u) 0 ∧ ∀ q, q < 270 → (gA w (16 + 2 * u)).getD q 0 = (gA w0 (102 + 2 * u)).getD q 0) → PS X k 71 49 [.ref 1, .ref 87, .int i2] [] w r w' → ∃ (k' : Nat) (w1 : pm_W) (i2' : Int32), FM tF1 tA1 w0 w1 ∧ gI w1 1 2 = vc ∧ gI w1 1 3 = cnt ∧ (∀ u, u < vN → ∀ k, vcl w1 (5 + 5 * u) k = vcl w0 (91 + 5 * u) k) ∧ (∀ u, u < cN → gI w1 (15 + 2 * u) 0 = gI w0 (101 + 2 * u) 0 ∧ ∀ q, q < 270 → (gA w1 (16 + 2 * u)).getD q 0 = (gA w0 (102 + 2 * u)).getD q 0) ∧ (∀ w2 : pm_W, w2 = sI w1 1 5 (gI w1 87 5) → (cpI w2 (gR w2 87 4) (gR w2 1 4) 0 0 (gI w2 1 5) ∧ (∀ w3 : pm_W, w3 = cpS w2 (gR w2 87 4) (gR w2 1 4) 0 0 (gI w2 1 5) → (∀ w4 : pm_W, w4 = sI w3 1 6 (gI w3 87 6) → (∀ w5 : pm_W, w5 = sI w4 1 7 (gI w4 87 7) → (r = none ∧ w' = w5)))))) := by
  intro k
  induction k with
  | zero => intro w t i2 f0 gc gv h2 ht hvv hv h; exact (PS_0 h).elim
  | succ k ih =>
    intro w t i2 f0 gc gv h2 ht hvv hv h
    have hS := f0.2.2.2
    have h := U71_49 hS h
    rw [gc] at h
    by_cases c : cnt ≤ i2
    · rw [if_pos c] at h
      rw [Int32.le_iff_toInt_le, hc, h2] at c
      exact ⟨k, w, i2, f0, gv, gc, hvv, fun u hu => hv u (by omega), h⟩
    · rw [if_neg c] at h
      rw [Int32.le_iff_toInt_le, hc, h2] at c
      obtain ⟨_, _, r1, w2, q1, q2⟩ := h
      have e1 : gR w 1 1 = 3 := sk_fix hS (by decide +kernel) (by decide)
      have e2 : gR w 87 1 = 89 := sk_fix hS (by decide +kernel) (by decide)
      have k1 : gQ w 3 = [some 15, some 17, some 19] := by rw [SK_Q hS]; decide +kernel
      have k2 : gQ w 89 = [some 101, some 103, some 105] := by rw [SK_Q hS]; decide +kernel
      unfold qG at q1
      rw [e1, e2, k1, k2, i_nat h2] at q1
      have ct : t = 0 ∨ t = 1 ∨ t = 2 := by omega
      have vcl_x : ∀ {fs : List (Nat × Nat)} {as : List Nat} (fm : FM fs as w w2), (∀ p, p ∈ [(5, 0), (5, 1), (5, 2), (10, 0), (10, 1), (10, 2)] → p ∉ fs) → (∀ x, x ∈ [5 + 1, 5 + 2, 5 + 3, 5 + 4, 10 + 1, 10 + 2, 10 + 3, 10 + 4] → x ∉ as) → ∀ u, u < vN → ∀ k, vcl w2 (5 + 5 * u) k = vcl w0 (91 + 5 * u) k := by
        intro fs as fm h1 h2 u hu k
        rw [← hvv u hu k]
        have cu : u = 0 ∨ u = 1 := by omega
        rcases cu with rfl | rfl
        · exact vcl_FMv hS fm (by decide +kernel) (h1 _ (by decide)) (h1 _ (by decide)) (h1 _ (by decide)) (h2 _ (by decide)) (h2 _ (by decide)) (h2 _ (by decide)) (h2 _ (by decide)) k
        · exact vcl_FMv hS fm (by decide +kernel) (h1 _ (by decide)) (h1 _ (by decide)) (h1 _ (by decide)) (h2 _ (by decide)) (h2 _ (by decide)) (h2 _ (by decide)) (h2 _ (by decide)) k
      have done : ∀ (fm : FM tF1 tA1 w w2), r1 = none → gI w2 1 3 = gI w 1 3 → (∀ x : Nat, x = 0 → gI w2 1 2 = gI w 1 2 ∧ gA w2 4 = gA w 4 ∧ gI w2 1 5 = gI w 1 5 ∧ gI w2 1 6 = gI w 1 6 ∧ gI w2 1 7 = gI w 1 7) → (∀ u, u < vN → ∀ k, vcl w2 (5 + 5 * u) k = vcl w0 (91 + 5 * u) k) → (∀ u, u < t + 1 → gI w2 (15 + 2 * u) 0 = gI w0 (101 + 2 * u) 0 ∧ ∀ q, q < 270 → (gA w2 (16 + 2 * u)).getD q 0 = (gA w0 (102 + 2 * u)).getD q 0) → _ := fun fm er z1 z2 z3 z4 => ih w2 (t + 1) (i2 + 1) (FM_trans f0 fm) (z1.trans gc) ((z2 0 rfl).1.trans gv) (by rw [zi_inc (n := 3) (by omega) (by omega), h2]; rfl) (by omega) z3 z4 (q2 er fm.2.2.2)
      rcases ct with rfl | rfl | rfl
      · obtain ⟨a1, a2, a3, a4⟩ := F57 hS (a := 15) (s := 101) (by decide +kernel) (by decide +kernel) (by decide) q1
        refine done (FM_mono a2 (by decide) (by decide)) a1 (FM_i a2 (by decide)) (fun x hx => ⟨FM_i a2 (by decide), FM_a a2 (by decide), FM_i a2 (by decide), FM_i a2 (by decide), FM_i a2 (by decide)⟩) (fun u hu k => vcl_x a2 (by decide) (by decide) u hu k) (fun u hu => ?_)
        have cu : u = 0 := by omega
        subst cu
        · refine ⟨?_, fun q hq => ?_⟩
          · show gI w2 15 0 = gI w0 101 0
            rw [a3]; exact FM_i f0 (by decide)
          · show (gA w2 16).getD q 0 = (gA w0 102).getD q 0
            rw [a4 q hq, FM_a f0 (by decide)]
      · obtain ⟨a1, a2, a3, a4⟩ := F57 hS (a := 17) (s := 103) (by decide +kernel) (by decide +kernel) (by decide) q1
        refine done (FM_mono a2 (by decide) (by decide)) a1 (FM_i a2 (by decide)) (fun x hx => ⟨FM_i a2 (by decide), FM_a a2 (by decide), FM_i a2 (by decide), FM_i a2 (by decide), FM_i a2 (by decide)⟩) (fun u hu k => vcl_x a2 (by decide) (by decide) u hu k) (fun u hu => ?_)
        have cu : u = 0 ∨ u = 1 := by omega
        rcases cu with rfl | rfl
        · obtain ⟨y1, y2⟩ := hv 0 (by omega)
          refine ⟨?_, fun q hq => ?_⟩
          · rw [← y1]; exact FM_i a2 (by decide)
          · rw [← y2 q hq, FM_a a2 (by decide)]
        · refine ⟨?_, fun q hq => ?_⟩
          · show gI w2 17 0 = gI w0 103 0
            rw [a3]; exact FM_i f0 (by decide)
          · show (gA w2 18).getD q 0 = (gA w0 104).getD q 0
            rw [a4 q hq, FM_a f0 (by decide)]
      · obtain ⟨a1, a2, a3, a4⟩ := F57 hS (a := 19) (s := 105) (by decide +kernel) (by decide +kernel) (by decide) q1
        refine done (FM_mono a2 (by decide) (by decide)) a1 (FM_i a2 (by decide)) (fun x hx => ⟨FM_i a2 (by decide), FM_a a2 (by decide), FM_i a2 (by decide), FM_i a2 (by decide), FM_i a2 (by decide)⟩) (fun u hu k => vcl_x a2 (by decide) (by decide) u hu k) (fun u hu => ?_)
        have cu : u = 0 ∨ u = 1 ∨ u = 2 := by omega
        rcases cu with rfl | rfl | rfl
        · obtain ⟨y1, y2⟩ := hv 0 (by omega)
          refine ⟨?_, fun q hq => ?_⟩
          · rw [← y1]; exact FM_i a2 (by decide)
          · rw [← y2 q hq, FM_a a2 (by decide)]
        · obtain ⟨y1, y2⟩ := hv 1 (by omega)
          refine ⟨?_, fun q hq => ?_⟩
          · rw [← y1]; exact FM_i a2 (by decide)
          · rw [← y2 q hq, FM_a a2 (by decide)]
        · refine ⟨?_, fun q hq => ?_⟩
          · show gI w2 19 0 = gI w0 105 0
            rw [a3]; exact FM_i f0 (by decide)
          · show (gA w2 20).getD q 0 = (gA w0 106).getD q 0
            rw [a4 q hq, FM_a f0 (by decide)]
theorem F71_1_87 {L : Nat} (hS : SK w) (h0 : 0 ≤ (gI w 87 2).toInt) (h2 : (gI w 87 2).toInt ≤ 2) (h1 : 0 ≤ (gI w 87 3).toInt) (h3 : (gI w 87 3).toInt ≤ 3) (hl : (gI w 87 5).toInt = L) (h6 : L ≤ 600) (h : PS X k 71 0 [.ref 1, .ref 87, pm_dead] [] w r w') : r = none ∧ FM tF1 tA1 w w' ∧ gI w' 1 2 = gI w 87 2 ∧ gI w' 1 3 = gI w 87 3 ∧ gI w' 1 5 = gI w 87 5 ∧ gI w' 1 6 = gI w 87 6 ∧ gI w' 1 7 = gI w 87 7 ∧ (∀ j, j < L → (gA w' 4).getD j 0 = (gA w 90).getD j 0) ∧ (∀ u, u < (gI w 87 2).toInt.toNat → ∀ k, vcl w' (5 + 5 * u) k = vcl w (91 + 5 * u) k) ∧ (∀ u, u < (gI w 87 3).toInt.toNat → gI w' (15 + 2 * u) 0 = gI w (101 + 2 * u) 0 ∧ ∀ q, q < 270 → (gA w' (16 + 2 * u)).getD q 0 = (gA w (102 + 2 * u)).getD q 0) := by
  cases k with
  | zero => exact (PS_0 h).elim
  | succ k =>
    have h := U71_0 hS h _ rfl _ rfl
    have fa : FM tF1 tA1 w (sI w 1 2 (gI w 87 2)) := FM_sI hS (by decide)
    obtain ⟨w2, e2⟩ : ∃ w2, w2 = sI (sI w 1 2 (gI w 87 2)) 1 3 (gI (sI w 1 2 (gI w 87 2)) 87 3) := ⟨_, rfl⟩
    rw [← e2] at h
    have fb : FM tF1 tA1 w w2 := FM_trans fa (by rw [e2]; exact FM_sI fa.2.2.2 (by decide))
    have g2 : gI w2 1 2 = gI w 87 2 := by rw [e2, gI_sI_ne (by decide), gI_sI (SK_isF hS (by decide +kernel))]
    have g3 : gI w2 1 3 = gI w 87 3 := by rw [e2, gI_sI (SK_isF fa.2.2.2 (by decide +kernel)), gI_sI_ne (by decide)]
    obtain ⟨k3, w3, f3, a1, a2, a3, h⟩ := L71v_1_87 (cN := (gI w 87 2).toInt.toNat) hS (by omega) (by omega) _ w2 0 0 fb g2 z32 (Nat.zero_le _) (fun u hu => absurd hu (Nat.not_lt_zero u)) h
    obtain ⟨k4, w4, i4, f4, b1, b2, b3, b4, h⟩ := L71r_1_87 (cN := (gI w 87 3).toInt.toNat) (vN := (gI w 87 2).toInt.toNat) hS (by omega) (by omega) (by omega) _ w3 0 0 f3 (a2.trans g3) a1 z32 (Nat.zero_le _) a3 (fun u hu => absurd hu (Nat.not_lt_zero u)) h
    have S4 := f4.2.2.2
    obtain ⟨hc, h⟩ := h _ rfl
    have h := h _ rfl _ rfl _ rfl
    obtain ⟨w5, e5⟩ : ∃ w5, w5 = sI w4 1 5 (gI w4 87 5) := ⟨_, rfl⟩
    rw [← e5] at h hc
    have f5 : FM [(1, 5)] [] w4 w5 := by rw [e5]; exact FM_sI S4 (by decide)
    have S5 := f5.2.2.2
    have g5 : gI w5 1 5 = gI w 87 5 := by rw [e5, gI_sI (SK_isF S4 (by decide +kernel))]; exact FM_i f4 (by decide)
    have r1 : gR w5 87 4 = 90 := sk_fix S5 (by decide +kernel) (by decide)
    have r2 : gR w5 1 4 = 4 := sk_fix S5 (by decide +kernel) (by decide)
    rw [r1, r2, g5] at h hc
    obtain ⟨w6, e6⟩ : ∃ w6, w6 = cpS w5 90 4 0 0 (gI w 87 5) := ⟨_, rfl⟩
    rw [← e6] at h
    have f6 : FM [] [4] w5 w6 := by rw [e6]; exact FM_cpS hc S5 (by decide)
    have S6 := f6.2.2.2
    have t6 : ∀ j, j < L → (gA w6 4).getD j 0 = (gA w 90).getD j 0 := by
      intro j hj
      rw [e6, cpS_A hc (SK_isA S5 (by decide +kernel)), hl, z32, cpy_getF (by rw [SK_len S5 (a := 90) (n := 600) (by decide +kernel) (by decide)]; show 0 + L ≤ 600; omega) (by rw [SK_len S5 (a := 4) (n := 600) (by decide +kernel) (by decide)]; show 0 + L ≤ 600; omega), if_pos (by show 0 ≤ j ∧ j < 0 + L; omega)]
      show (gA w5 90).getD (0 + (j - 0)) 0 = _
      rw [show 0 + (j - 0) = j by omega, FM_a f5 (by intro z; cases z), FM_a f4 (by decide)]
    obtain ⟨w7, e7⟩ : ∃ w7, w7 = sI w6 1 6 (gI w6 87 6) := ⟨_, rfl⟩
    rw [← e7] at h
    have f7 : FM [(1, 6)] [] w6 w7 := by rw [e7]; exact FM_sI S6 (by decide)
    have S7 := f7.2.2.2
    have f8 : FM [(1, 7)] [] w7 w' := by rw [h.2]; exact FM_sI S7 (by decide)
    have s6 : gI w6 87 6 = gI w 87 6 := by rw [FM_i f6 (by intro z; cases z), FM_i f5 (by decide), FM_i f4 (by decide)]
    have s7 : gI w7 87 7 = gI w 87 7 := by rw [FM_i f7 (by decide), FM_i f6 (by intro z; cases z), FM_i f5 (by decide), FM_i f4 (by decide)]
    have fx : FM [(1, 5), (1, 6), (1, 7)] [4] w4 w' := FM_trans (FM_mono f5 (by decide) (by decide)) (FM_trans (FM_mono f6 (by intro x hx; cases hx) (by decide)) (FM_trans (FM_mono f7 (by decide) (by decide)) (FM_mono f8 (by decide) (by decide))))
    refine ⟨h.1, FM_trans f4 (FM_mono fx (by decide) (by decide)), (FM_i fx (by decide)).trans b1, (FM_i fx (by decide)).trans b2, ?_, ?_, ?_, fun j hj => ?_, fun u hu k => ?_, fun u hu => ?_⟩
    · rw [FM_i f8 (by decide), FM_i f7 (by decide), FM_i f6 (by intro z; cases z)]; exact g5
    · rw [FM_i f8 (by decide), e7, gI_sI (SK_isF S6 (by decide +kernel))]; exact s6
    · rw [h.2, gI_sI (SK_isF S7 (by decide +kernel))]; exact s7
    · rw [FM_a f8 (by intro z; cases z), FM_a f7 (by intro z; cases z)]; exact t6 j hj
    · rw [← b3 u hu k]
      have cu : u = 0 ∨ u = 1 := by omega
      rcases cu with rfl | rfl
      · exact vcl_FMv S4 fx (by decide +kernel) (by decide) (by decide) (by decide) (by decide) (by decide) (by decide) (by decide) k
      · exact vcl_FMv S4 fx (by decide +kernel) (by decide) (by decide) (by decide) (by decide) (by decide) (by decide) (by decide) k
    · obtain ⟨y1, y2⟩ := b4 u hu
      have cu : u = 0 ∨ u = 1 ∨ u = 2 := by omega
      refine ⟨?_, fun q hq => ?_⟩
      · rw [← y1]
        rcases cu with rfl | rfl | rfl <;> exact FM_i fx (by decide)
      · rw [← y2 q hq]
        rcases cu with rfl | rfl | rfl <;> rw [FM_a fx (by decide)]
/-- a told object copied is told alike -/
theorem TE71_1_87 {a : Nat → Int32} (hS : SK w) (hTE : TE w 87 a) (h : PS X k 71 0 [.ref 1, .ref 87, pm_dead] [] w r w') : r = none ∧ FM tF1 tA1 w w' ∧ TE w' 1 a := by
  obtain ⟨⟨r1, r2, r3, r4, r5, r6, r7⟩, t1, t2, t3, t4, t5, t6, t7, t8⟩ := hTE
  obtain ⟨z1, z2, z3, z4, z5, z6, z7, z8, z9, z10⟩ := F71_1_87 (L := (a 2).toInt.toNat) hS (by rw [t1]; exact r1) (by rw [t1]; exact r2) (by rw [t2]; exact r3) (by rw [t2]; exact r4) (by rw [t3]; omega) (by omega) h
  rw [t1] at z9
  rw [t2] at z10
  refine ⟨z1, z2, ⟨r1, r2, r3, r4, r5, r6, r7⟩, z3.trans t1, z4.trans t2, z5.trans t3, z6.trans t4, z7.trans t5, fun j hj => ?_, fun u hu k hk => ?_, fun u hu => ?_⟩
  · show BY ((gA w' 4).getD j 0) _
    rw [z8 j hj]
    exact t6 j hj
  · exact (z9 u hu k).trans (t7 u hu k hk)
  · obtain ⟨y1, y2⟩ := z10 u hu
    obtain ⟨x1, x2⟩ := t8 u hu
    have ra := r7 u hu
    exact ⟨y1.trans x1, fun q hq => (y2 q (by omega)).trans (x2 q hq)⟩
theorem L71v_1_107 {w0 : pm_W} {cnt : Int32} {cN : Nat} (hS0 : SK w0) (hc : cnt.toInt = cN) (hc2 : cN ≤ 2) : ∀ (k : Nat) (w : pm_W) (t : Nat) (i2 : Int32), FM tF1 tA1 w0 w → gI w 1 2 = cnt → i2.toInt = t → t ≤ cN → (∀ u, u < t → ∀ k, vcl w (5 + 5 * u) k = vcl w0 (111 + 5 * u) k) → PS X k 71 18 [.ref 1, .ref 107, .int i2] [] w r w' → ∃ (k' : Nat) (w1 : pm_W), FM tF1 tA1 w0 w1 ∧ gI w1 1 2 = cnt ∧ gI w1 1 3 = gI w 1 3 ∧ (∀ u, u < cN → ∀ k, vcl w1 (5 + 5 * u) k = vcl w0 (111 + 5 * u) k) ∧ PS X k' 71 49 [.ref 1, .ref 107, .int 0] [] w1 r w' := by
  intro k
  induction k with
  | zero => intro w t i2 f0 gc h2 ht hv h; exact (PS_0 h).elim
  | succ k ih =>
    intro w t i2 f0 gc h2 ht hv h
    have hS := f0.2.2.2
    have h := U71_18 hS h
    rw [gc] at h
    by_cases c : cnt ≤ i2
    · rw [if_pos c] at h
      rw [Int32.le_iff_toInt_le, hc, h2] at c
      exact ⟨k, w, f0, gc, rfl, fun u hu => hv u (by omega), h⟩
    · rw [if_neg c] at h
      rw [Int32.le_iff_toInt_le, hc, h2] at c
      obtain ⟨_, _, r1, w2, q1, q2⟩ := h
      have e1 : gR w 1 0 = 2 := sk_fix hS (by decide +kernel) (by decide)
      have e2 : gR w 107 0 = 108 := sk_fix hS (by decide +kernel) (by decide)
      have k1 : gQ w 2 = [some 5, some 10] := by rw [SK_Q hS]; decide +kernel
      have k2 : gQ w 108 = [some 111, some 116] := by rw [SK_Q hS]; decide +kernel
      unfold qG at q1
      rw [e1, e2, k1, k2, i_nat h2] at q1
      have ct : t = 0 ∨ t = 1 := by omega
      have done : ∀ (fm : FM tF1 tA1 w w2), r1 = none → gI w2 1 2 = gI w 1 2 → gI w2 1 3 = gI w 1 3 → (∀ u, u < t + 1 → ∀ k, vcl w2 (5 + 5 * u) k = vcl w0 (111 + 5 * u) k) → ∃ (k' : Nat) (w1 : pm_W), FM tF1 tA1 w0 w1 ∧ gI w1 1 2 = cnt ∧ gI w1 1 3 = gI w 1 3 ∧ (∀ u, u < cN → ∀ k, vcl w1 (5 + 5 * u) k = vcl w0 (111 + 5 * u) k) ∧ PS X k' 71 49 [.ref 1, .ref 107, .int 0] [] w1 r w' := by
        intro fm er z2 z3 z4
        obtain ⟨k', w1, y1, y2, y3, y4⟩ := ih w2 (t + 1) (i2 + 1) (FM_trans f0 fm) (z2.trans gc) (by rw [zi_inc (n := 2) (by omega) (by omega), h2]; rfl) (by omega) z4 (q2 er fm.2.2.2)
        exact ⟨k', w1, y1, y2, y3.trans z3, y4⟩
      rcases ct with rfl | rfl
      · obtain ⟨a1, a2, a3⟩ := F56 hS (a := 5) (s := 111) (by decide +kernel) (by decide +kernel) (by decide) q1
        refine done (FM_mono a2 (by decide) (by decide)) a1 (FM_i a2 (by decide)) (FM_i a2 (by decide)) (fun u hu k => ?_)
        have eu : u = 0 := by omega
        subst eu
        rw [show 5 + 5 * 0 = 5 from rfl, show 111 + 5 * 0 = 111 from rfl, a3 k]
        exact vcl_FMv hS0 f0 (by decide +kernel) (by decide) (by decide) (by decide) (by decide) (by decide) (by decide) (by decide) k
      · obtain ⟨a1, a2, a3⟩ := F56 hS (a := 10) (s := 116) (by decide +kernel) (by decide +kernel) (by decide) q1
        refine done (FM_mono a2 (by decide) (by decide)) a1 (FM_i a2 (by decide)) (FM_i a2 (by decide)) (fun u hu k => ?_)
        have cu : u = 0 ∨ u = 1 := by omega
        rcases cu with rfl | rfl
        · rw [← hv 0 (by omega) k]
          exact vcl_FMv hS a2 (by decide +kernel) (by decide) (by decide) (by decide) (by decide) (by decide) (by decide) (by decide) k
        · rw [show 5 + 5 * 1 = 10 from rfl, show 111 + 5 * 1 = 116 from rfl, a3 k]
          exact vcl_FMv hS0 f0 (by decide +kernel) (by decide) (by decide) (by decide) (by decide) (by decide) (by decide) (by decide) k
theorem L71r_1_107 {w0 : pm_W} {cnt vc : Int32} {cN vN : Nat} (hS0 : SK w0) (hc : cnt.toInt = cN) (hc2 : cN ≤ 3) (hv2 : vN ≤ 2) : ∀ (k : Nat) (w : pm_W) (t : Nat) (i2 : Int32), FM tF1 tA1 w0 w → gI w 1 3 = cnt → gI w 1 2 = vc → i2.toInt = t → t ≤ cN → (∀ u, u < vN → ∀ k, vcl w (5 + 5 * u) k = vcl w0 (111 + 5 * u) k) → (∀ u, u < t → gI w (15 + 2 * u) 0 = gI w0 (121 + 2 * u) 0 ∧ ∀ q, q < 270 → (gA w (16 + 2 * u)).getD q 0 = (gA w0 (122 + 2 * u)).getD q 0) → PS X k 71 49 [.ref 1, .ref 107, .int i2] [] w r w' → ∃ (k' : Nat) (w1 : pm_W) (i2' : Int32), FM tF1 tA1 w0 w1 ∧ gI w1 1 2 = vc ∧ gI w1 1 3 = cnt ∧ (∀ u, u < vN → ∀ k, vcl w1 (5 + 5 * u) k = vcl w0 (111 + 5 * u) k) ∧ (∀ u, u < cN → gI w1 (15 + 2 * u) 0 = gI w0 (121 + 2 * u) 0 ∧ ∀ q, q < 270 → (gA w1 (16 + 2 * u)).getD q 0 = (gA w0 (122 + 2 * u)).getD q 0) ∧ (∀ w2 : pm_W, w2 = sI w1 1 5 (gI w1 107 5) → (cpI w2 (gR w2 107 4) (gR w2 1 4) 0 0 (gI w2 1 5) ∧ (∀ w3 : pm_W, w3 = cpS w2 (gR w2 107 4) (gR w2 1 4) 0 0 (gI w2 1 5) → (∀ w4 : pm_W, w4 = sI w3 1 6 (gI w3 107 6) → (∀ w5 : pm_W, w5 = sI w4 1 7 (gI w4 107 7) → (r = none ∧ w' = w5)))))) := by
  intro k
  induction k with
  | zero => intro w t i2 f0 gc gv h2 ht hvv hv h; exact (PS_0 h).elim
  | succ k ih =>
    intro w t i2 f0 gc gv h2 ht hvv hv h
    have hS := f0.2.2.2
    have h := U71_49 hS h
    rw [gc] at h
    by_cases c : cnt ≤ i2
    · rw [if_pos c] at h
      rw [Int32.le_iff_toInt_le, hc, h2] at c
      exact ⟨k, w, i2, f0, gv, gc, hvv, fun u hu => hv u (by omega), h⟩
    · rw [if_neg c] at h
      rw [Int32.le_iff_toInt_le, hc, h2] at c
      obtain ⟨_, _, r1, w2, q1, q2⟩ := h
      have e1 : gR w 1 1 = 3 := sk_fix hS (by decide +kernel) (by decide)
      have e2 : gR w 107 1 = 109 := sk_fix hS (by decide +kernel) (by decide)
      have k1 : gQ w 3 = [some 15, some 17, some 19] := by rw [SK_Q hS]; decide +kernel
      have k2 : gQ w 109 = [some 121, some 123, some 125] := by rw [SK_Q hS]; decide +kernel
      unfold qG at q1
      rw [e1, e2, k1, k2, i_nat h2] at q1
      have ct : t = 0 ∨ t = 1 ∨ t = 2 := by omega
      have vcl_x : ∀ {fs : List (Nat × Nat)} {as : List Nat} (fm : FM fs as w w2), (∀ p, p ∈ [(5, 0), (5, 1), (5, 2), (10, 0), (10, 1), (10, 2)] → p ∉ fs) → (∀ x, x ∈ [5 + 1, 5 + 2, 5 + 3, 5 + 4, 10 + 1, 10 + 2, 10 + 3, 10 + 4] → x ∉ as) → ∀ u, u < vN → ∀ k, vcl w2 (5 + 5 * u) k = vcl w0 (111 + 5 * u) k := by
        intro fs as fm h1 h2 u hu k
        rw [← hvv u hu k]
        have cu : u = 0 ∨ u = 1 := by omega
        rcases cu with rfl | rfl
        · exact vcl_FMv hS fm (by decide +kernel) (h1 _ (by decide)) (h1 _ (by decide)) (h1 _ (by decide)) (h2 _ (by decide)) (h2 _ (by decide)) (h2 _ (by decide)) (h2 _ (by decide)) k
        · exact vcl_FMv hS fm (by decide +kernel) (h1 _ (by decide)) (h1 _ (by decide)) (h1 _ (by decide)) (h2 _ (by decide)) (h2 _ (by decide)) (h2 _ (by decide)) (h2 _ (by decide)) k
      have done : ∀ (fm : FM tF1 tA1 w w2), r1 = none → gI w2 1 3 = gI w 1 3 → (∀ x : Nat, x = 0 → gI w2 1 2 = gI w 1 2 ∧ gA w2 4 = gA w 4 ∧ gI w2 1 5 = gI w 1 5 ∧ gI w2 1 6 = gI w 1 6 ∧ gI w2 1 7 = gI w 1 7) → (∀ u, u < vN → ∀ k, vcl w2 (5 + 5 * u) k = vcl w0 (111 + 5 * u) k) → (∀ u, u < t + 1 → gI w2 (15 + 2 * u) 0 = gI w0 (121 + 2 * u) 0 ∧ ∀ q, q < 270 → (gA w2 (16 + 2 * u)).getD q 0 = (gA w0 (122 + 2 * u)).getD q 0) → _ := fun fm er z1 z2 z3 z4 => ih w2 (t + 1) (i2 + 1) (FM_trans f0 fm) (z1.trans gc) ((z2 0 rfl).1.trans gv) (by rw [zi_inc (n := 3) (by omega) (by omega), h2]; rfl) (by omega) z3 z4 (q2 er fm.2.2.2)
      rcases ct with rfl | rfl | rfl
      · obtain ⟨a1, a2, a3, a4⟩ := F57 hS (a := 15) (s := 121) (by decide +kernel) (by decide +kernel) (by decide) q1
        refine done (FM_mono a2 (by decide) (by decide)) a1 (FM_i a2 (by decide)) (fun x hx => ⟨FM_i a2 (by decide), FM_a a2 (by decide), FM_i a2 (by decide), FM_i a2 (by decide), FM_i a2 (by decide)⟩) (fun u hu k => vcl_x a2 (by decide) (by decide) u hu k) (fun u hu => ?_)
        have cu : u = 0 := by omega
        subst cu
        · refine ⟨?_, fun q hq => ?_⟩
          · show gI w2 15 0 = gI w0 121 0
            rw [a3]; exact FM_i f0 (by decide)
          · show (gA w2 16).getD q 0 = (gA w0 122).getD q 0
            rw [a4 q hq, FM_a f0 (by decide)]
      · obtain ⟨a1, a2, a3, a4⟩ := F57 hS (a := 17) (s := 123) (by decide +kernel) (by decide +kernel) (by decide) q1
        refine done (FM_mono a2 (by decide) (by decide)) a1 (FM_i a2 (by decide)) (fun x hx => ⟨FM_i a2 (by decide), FM_a a2 (by decide), FM_i a2 (by decide), FM_i a2 (by decide), FM_i a2 (by decide)⟩) (fun u hu k => vcl_x a2 (by decide) (by decide) u hu k) (fun u hu => ?_)
        have cu : u = 0 ∨ u = 1 := by omega
        rcases cu with rfl | rfl
        · obtain ⟨y1, y2⟩ := hv 0 (by omega)
          refine ⟨?_, fun q hq => ?_⟩
          · rw [← y1]; exact FM_i a2 (by decide)
          · rw [← y2 q hq, FM_a a2 (by decide)]
        · refine ⟨?_, fun q hq => ?_⟩
          · show gI w2 17 0 = gI w0 123 0
            rw [a3]; exact FM_i f0 (by decide)
          · show (gA w2 18).getD q 0 = (gA w0 124).getD q 0
            rw [a4 q hq, FM_a f0 (by decide)]
      · obtain ⟨a1, a2, a3, a4⟩ := F57 hS (a := 19) (s := 125) (by decide +kernel) (by decide +kernel) (by decide) q1
        refine done (FM_mono a2 (by decide) (by decide)) a1 (FM_i a2 (by decide)) (fun x hx => ⟨FM_i a2 (by decide), FM_a a2 (by decide), FM_i a2 (by decide), FM_i a2 (by decide), FM_i a2 (by decide)⟩) (fun u hu k => vcl_x a2 (by decide) (by decide) u hu k) (fun u hu => ?_)
        have cu : u = 0 ∨ u = 1 ∨ u = 2 := by omega
        rcases cu with rfl | rfl | rfl
        · obtain ⟨y1, y2⟩ := hv 0 (by omega)
          refine ⟨?_, fun q hq => ?_⟩
          · rw [← y1]; exact FM_i a2 (by decide)
          · rw [← y2 q hq, FM_a a2 (by decide)]
        · obtain ⟨y1, y2⟩ := hv 1 (by omega)
          refine ⟨?_, fun q hq => ?_⟩
          · rw [← y1]; exact FM_i a2 (by decide)
          · rw [← y2 q hq, FM_a a2 (by decide)]
        · refine ⟨?_, fun q hq => ?_⟩
          · show gI w2 19 0 = gI w0 125 0
            rw [a3]; exact FM_i f0 (by decide)
          · show (gA w2 20).getD q 0 = (gA w0 126).getD q 0
            rw [a4 q hq, FM_a f0 (by decide)]
theorem F71_1_107 {L : Nat} (hS : SK w) (h0 : 0 ≤ (gI w 107 2).toInt) (h2 : (gI w 107 2).toInt ≤ 2) (h1 : 0 ≤ (gI w 107 3).toInt) (h3 : (gI w 107 3).toInt ≤ 3) (hl : (gI w 107 5).toInt = L) (h6 : L ≤ 600) (h : PS X k 71 0 [.ref 1, .ref 107, pm_dead] [] w r w') : r = none ∧ FM tF1 tA1 w w' ∧ gI w' 1 2 = gI w 107 2 ∧ gI w' 1 3 = gI w 107 3 ∧ gI w' 1 5 = gI w 107 5 ∧ gI w' 1 6 = gI w 107 6 ∧ gI w' 1 7 = gI w 107 7 ∧ (∀ j, j < L → (gA w' 4).getD j 0 = (gA w 110).getD j 0) ∧ (∀ u, u < (gI w 107 2).toInt.toNat → ∀ k, vcl w' (5 + 5 * u) k = vcl w (111 + 5 * u) k) ∧ (∀ u, u < (gI w 107 3).toInt.toNat → gI w' (15 + 2 * u) 0 = gI w (121 + 2 * u) 0 ∧ ∀ q, q < 270 → (gA w' (16 + 2 * u)).getD q 0 = (gA w (122 + 2 * u)).getD q 0) := by
  cases k with
  | zero => exact (PS_0 h).elim
  | succ k =>
    have h := U71_0 hS h _ rfl _ rfl
    have fa : FM tF1 tA1 w (sI w 1 2 (gI w 107 2)) := FM_sI hS (by decide)
    obtain ⟨w2, e2⟩ : ∃ w2, w2 = sI (sI w 1 2 (gI w 107 2)) 1 3 (gI (sI w 1 2 (gI w 107 2)) 107 3) := ⟨_, rfl⟩
    rw [← e2] at h
    have fb : FM tF1 tA1 w w2 := FM_trans fa (by rw [e2]; exact FM_sI fa.2.2.2 (by decide))
    have g2 : gI w2 1 2 = gI w 107 2 := by rw [e2, gI_sI_ne (by decide), gI_sI (SK_isF hS (by decide +kernel))]
    have g3 : gI w2 1 3 = gI w 107 3 := by rw [e2, gI_sI (SK_isF fa.2.2.2 (by decide +kernel)), gI_sI_ne (by decide)]
    obtain ⟨k3, w3, f3, a1, a2, a3, h⟩ := L71v_1_107 (cN := (gI w 107 2).toInt.toNat) hS (by omega) (by omega) _ w2 0 0 fb g2 z32 (Nat.zero_le _) (fun u hu => absurd hu (Nat.not_lt_zero u)) h
    obtain ⟨k4, w4, i4, f4, b1, b2, b3, b4, h⟩ := L71r_1_107 (cN := (gI w 107 3).toInt.toNat) (vN := (gI w 107 2).toInt.toNat) hS (by omega) (by omega) (by omega) _ w3 0 0 f3 (a2.trans g3) a1 z32 (Nat.zero_le _) a3 (fun u hu => absurd hu (Nat.not_lt_zero u)) h
    have S4 := f4.2.2.2
    obtain ⟨hc, h⟩ := h _ rfl
    have h := h _ rfl _ rfl _ rfl
    obtain ⟨w5, e5⟩ : ∃ w5, w5 = sI w4 1 5 (gI w4 107 5) := ⟨_, rfl⟩
    rw [← e5] at h hc
    have f5 : FM [(1, 5)] [] w4 w5 := by rw [e5]; exact FM_sI S4 (by decide)
    have S5 := f5.2.2.2
    have g5 : gI w5 1 5 = gI w 107 5 := by rw [e5, gI_sI (SK_isF S4 (by decide +kernel))]; exact FM_i f4 (by decide)
    have r1 : gR w5 107 4 = 110 := sk_fix S5 (by decide +kernel) (by decide)
    have r2 : gR w5 1 4 = 4 := sk_fix S5 (by decide +kernel) (by decide)
    rw [r1, r2, g5] at h hc
    obtain ⟨w6, e6⟩ : ∃ w6, w6 = cpS w5 110 4 0 0 (gI w 107 5) := ⟨_, rfl⟩
    rw [← e6] at h
    have f6 : FM [] [4] w5 w6 := by rw [e6]; exact FM_cpS hc S5 (by decide)
    have S6 := f6.2.2.2
    have t6 : ∀ j, j < L → (gA w6 4).getD j 0 = (gA w 110).getD j 0 := by
      intro j hj
      rw [e6, cpS_A hc (SK_isA S5 (by decide +kernel)), hl, z32, cpy_getF (by rw [SK_len S5 (a := 110) (n := 600) (by decide +kernel) (by decide)]; show 0 + L ≤ 600; omega) (by rw [SK_len S5 (a := 4) (n := 600) (by decide +kernel) (by decide)]; show 0 + L ≤ 600; omega), if_pos (by show 0 ≤ j ∧ j < 0 + L; omega)]
      show (gA w5 110).getD (0 + (j - 0)) 0 = _
      rw [show 0 + (j - 0) = j by omega, FM_a f5 (by intro z; cases z), FM_a f4 (by decide)]
    obtain ⟨w7, e7⟩ : ∃ w7, w7 = sI w6 1 6 (gI w6 107 6) := ⟨_, rfl⟩
    rw [← e7] at h
    have f7 : FM [(1, 6)] [] w6 w7 := by rw [e7]; exact FM_sI S6 (by decide)
    have S7 := f7.2.2.2
    have f8 : FM [(1, 7)] [] w7 w' := by rw [h.2]; exact FM_sI S7 (by decide)
    have s6 : gI w6 107 6 = gI w 107 6 := by rw [FM_i f6 (by intro z; cases z), FM_i f5 (by decide), FM_i f4 (by decide)]
    have s7 : gI w7 107 7 = gI w 107 7 := by rw [FM_i f7 (by decide), FM_i f6 (by intro z; cases z), FM_i f5 (by decide), FM_i f4 (by decide)]
    have fx : FM [(1, 5), (1, 6), (1, 7)] [4] w4 w' := FM_trans (FM_mono f5 (by decide) (by decide)) (FM_trans (FM_mono f6 (by intro x hx; cases hx) (by decide)) (FM_trans (FM_mono f7 (by decide) (by decide)) (FM_mono f8 (by decide) (by decide))))
    refine ⟨h.1, FM_trans f4 (FM_mono fx (by decide) (by decide)), (FM_i fx (by decide)).trans b1, (FM_i fx (by decide)).trans b2, ?_, ?_, ?_, fun j hj => ?_, fun u hu k => ?_, fun u hu => ?_⟩
    · rw [FM_i f8 (by decide), FM_i f7 (by decide), FM_i f6 (by intro z; cases z)]; exact g5
    · rw [FM_i f8 (by decide), e7, gI_sI (SK_isF S6 (by decide +kernel))]; exact s6
    · rw [h.2, gI_sI (SK_isF S7 (by decide +kernel))]; exact s7
    · rw [FM_a f8 (by intro z; cases z), FM_a f7 (by intro z; cases z)]; exact t6 j hj
    · rw [← b3 u hu k]
      have cu : u = 0 ∨ u = 1 := by omega
      rcases cu with rfl | rfl
      · exact vcl_FMv S4 fx (by decide +kernel) (by decide) (by decide) (by decide) (by decide) (by decide) (by decide) (by decide) k
      · exact vcl_FMv S4 fx (by decide +kernel) (by decide) (by decide) (by decide) (by decide) (by decide) (by decide) (by decide) k
    · obtain ⟨y1, y2⟩ := b4 u hu
      have cu : u = 0 ∨ u = 1 ∨ u = 2 := by omega
      refine ⟨?_, fun q hq => ?_⟩
      · rw [← y1]
        rcases cu with rfl | rfl | rfl <;> exact FM_i fx (by decide)
      · rw [← y2 q hq]
        rcases cu with rfl | rfl | rfl <;> rw [FM_a fx (by decide)]
/-- a told object copied is told alike -/
theorem TE71_1_107 {a : Nat → Int32} (hS : SK w) (hTE : TE w 107 a) (h : PS X k 71 0 [.ref 1, .ref 107, pm_dead] [] w r w') : r = none ∧ FM tF1 tA1 w w' ∧ TE w' 1 a := by
  obtain ⟨⟨r1, r2, r3, r4, r5, r6, r7⟩, t1, t2, t3, t4, t5, t6, t7, t8⟩ := hTE
  obtain ⟨z1, z2, z3, z4, z5, z6, z7, z8, z9, z10⟩ := F71_1_107 (L := (a 2).toInt.toNat) hS (by rw [t1]; exact r1) (by rw [t1]; exact r2) (by rw [t2]; exact r3) (by rw [t2]; exact r4) (by rw [t3]; omega) (by omega) h
  rw [t1] at z9
  rw [t2] at z10
  refine ⟨z1, z2, ⟨r1, r2, r3, r4, r5, r6, r7⟩, z3.trans t1, z4.trans t2, z5.trans t3, z6.trans t4, z7.trans t5, fun j hj => ?_, fun u hu k hk => ?_, fun u hu => ?_⟩
  · show BY ((gA w' 4).getD j 0) _
    rw [z8 j hj]
    exact t6 j hj
  · exact (z9 u hu k).trans (t7 u hu k hk)
  · obtain ⟨y1, y2⟩ := z10 u hu
    obtain ⟨x1, x2⟩ := t8 u hu
    have ra := r7 u hu
    exact ⟨y1.trans x1, fun q hq => (y2 q (by omega)).trans (x2 q hq)⟩
theorem L71v_1_127 {w0 : pm_W} {cnt : Int32} {cN : Nat} (hS0 : SK w0) (hc : cnt.toInt = cN) (hc2 : cN ≤ 2) : ∀ (k : Nat) (w : pm_W) (t : Nat) (i2 : Int32), FM tF1 tA1 w0 w → gI w 1 2 = cnt → i2.toInt = t → t ≤ cN → (∀ u, u < t → ∀ k, vcl w (5 + 5 * u) k = vcl w0 (131 + 5 * u) k) → PS X k 71 18 [.ref 1, .ref 127, .int i2] [] w r w' → ∃ (k' : Nat) (w1 : pm_W), FM tF1 tA1 w0 w1 ∧ gI w1 1 2 = cnt ∧ gI w1 1 3 = gI w 1 3 ∧ (∀ u, u < cN → ∀ k, vcl w1 (5 + 5 * u) k = vcl w0 (131 + 5 * u) k) ∧ PS X k' 71 49 [.ref 1, .ref 127, .int 0] [] w1 r w' := by
  intro k
  induction k with
  | zero => intro w t i2 f0 gc h2 ht hv h; exact (PS_0 h).elim
  | succ k ih =>
    intro w t i2 f0 gc h2 ht hv h
    have hS := f0.2.2.2
    have h := U71_18 hS h
    rw [gc] at h
    by_cases c : cnt ≤ i2
    · rw [if_pos c] at h
      rw [Int32.le_iff_toInt_le, hc, h2] at c
      exact ⟨k, w, f0, gc, rfl, fun u hu => hv u (by omega), h⟩
    · rw [if_neg c] at h
      rw [Int32.le_iff_toInt_le, hc, h2] at c
      obtain ⟨_, _, r1, w2, q1, q2⟩ := h
      have e1 : gR w 1 0 = 2 := sk_fix hS (by decide +kernel) (by decide)
      have e2 : gR w 127 0 = 128 := sk_fix hS (by decide +kernel) (by decide)
      have k1 : gQ w 2 = [some 5, some 10] := by rw [SK_Q hS]; decide +kernel
      have k2 : gQ w 128 = [some 131, some 136] := by rw [SK_Q hS]; decide +kernel
      unfold qG at q1
      rw [e1, e2, k1, k2, i_nat h2] at q1
      have ct : t = 0 ∨ t = 1 := by omega
      have done : ∀ (fm : FM tF1 tA1 w w2), r1 = none → gI w2 1 2 = gI w 1 2 → gI w2 1 3 = gI w 1 3 → (∀ u, u < t + 1 → ∀ k, vcl w2 (5 + 5 * u) k = vcl w0 (131 + 5 * u) k) → ∃ (k' : Nat) (w1 : pm_W), FM tF1 tA1 w0 w1 ∧ gI w1 1 2 = cnt ∧ gI w1 1 3 = gI w 1 3 ∧ (∀ u, u < cN → ∀ k, vcl w1 (5 + 5 * u) k = vcl w0 (131 + 5 * u) k) ∧ PS X k' 71 49 [.ref 1, .ref 127, .int 0] [] w1 r w' := by
        intro fm er z2 z3 z4
        obtain ⟨k', w1, y1, y2, y3, y4⟩ := ih w2 (t + 1) (i2 + 1) (FM_trans f0 fm) (z2.trans gc) (by rw [zi_inc (n := 2) (by omega) (by omega), h2]; rfl) (by omega) z4 (q2 er fm.2.2.2)
        exact ⟨k', w1, y1, y2, y3.trans z3, y4⟩
      rcases ct with rfl | rfl
      · obtain ⟨a1, a2, a3⟩ := F56 hS (a := 5) (s := 131) (by decide +kernel) (by decide +kernel) (by decide) q1
        refine done (FM_mono a2 (by decide) (by decide)) a1 (FM_i a2 (by decide)) (FM_i a2 (by decide)) (fun u hu k => ?_)
        have eu : u = 0 := by omega
        subst eu
        rw [show 5 + 5 * 0 = 5 from rfl, show 131 + 5 * 0 = 131 from rfl, a3 k]
        exact vcl_FMv hS0 f0 (by decide +kernel) (by decide) (by decide) (by decide) (by decide) (by decide) (by decide) (by decide) k
      · obtain ⟨a1, a2, a3⟩ := F56 hS (a := 10) (s := 136) (by decide +kernel) (by decide +kernel) (by decide) q1
        refine done (FM_mono a2 (by decide) (by decide)) a1 (FM_i a2 (by decide)) (FM_i a2 (by decide)) (fun u hu k => ?_)
        have cu : u = 0 ∨ u = 1 := by omega
        rcases cu with rfl | rfl
        · rw [← hv 0 (by omega) k]
          exact vcl_FMv hS a2 (by decide +kernel) (by decide) (by decide) (by decide) (by decide) (by decide) (by decide) (by decide) k
        · rw [show 5 + 5 * 1 = 10 from rfl, show 131 + 5 * 1 = 136 from rfl, a3 k]
          exact vcl_FMv hS0 f0 (by decide +kernel) (by decide) (by decide) (by decide) (by decide) (by decide) (by decide) (by decide) k
theorem L71r_1_127 {w0 : pm_W} {cnt vc : Int32} {cN vN : Nat} (hS0 : SK w0) (hc : cnt.toInt = cN) (hc2 : cN ≤ 3) (hv2 : vN ≤ 2) : ∀ (k : Nat) (w : pm_W) (t : Nat) (i2 : Int32), FM tF1 tA1 w0 w → gI w 1 3 = cnt → gI w 1 2 = vc → i2.toInt = t → t ≤ cN → (∀ u, u < vN → ∀ k, vcl w (5 + 5 * u) k = vcl w0 (131 + 5 * u) k) → (∀ u, u < t → gI w (15 + 2 * u) 0 = gI w0 (141 + 2 * u) 0 ∧ ∀ q, q < 270 → (gA w (16 + 2 * u)).getD q 0 = (gA w0 (142 + 2 * u)).getD q 0) → PS X k 71 49 [.ref 1, .ref 127, .int i2] [] w r w' → ∃ (k' : Nat) (w1 : pm_W) (i2' : Int32), FM tF1 tA1 w0 w1 ∧ gI w1 1 2 = vc ∧ gI w1 1 3 = cnt ∧ (∀ u, u < vN → ∀ k, vcl w1 (5 + 5 * u) k = vcl w0 (131 + 5 * u) k) ∧ (∀ u, u < cN → gI w1 (15 + 2 * u) 0 = gI w0 (141 + 2 * u) 0 ∧ ∀ q, q < 270 → (gA w1 (16 + 2 * u)).getD q 0 = (gA w0 (142 + 2 * u)).getD q 0) ∧ (∀ w2 : pm_W, w2 = sI w1 1 5 (gI w1 127 5) → (cpI w2 (gR w2 127 4) (gR w2 1 4) 0 0 (gI w2 1 5) ∧ (∀ w3 : pm_W, w3 = cpS w2 (gR w2 127 4) (gR w2 1 4) 0 0 (gI w2 1 5) → (∀ w4 : pm_W, w4 = sI w3 1 6 (gI w3 127 6) → (∀ w5 : pm_W, w5 = sI w4 1 7 (gI w4 127 7) → (r = none ∧ w' = w5)))))) := by
  intro k
  induction k with
  | zero => intro w t i2 f0 gc gv h2 ht hvv hv h; exact (PS_0 h).elim
  | succ k ih =>
    intro w t i2 f0 gc gv h2 ht hvv hv h
    have hS := f0.2.2.2
    have h := U71_49 hS h
    rw [gc] at h
    by_cases c : cnt ≤ i2
    · rw [if_pos c] at h
      rw [Int32.le_iff_toInt_le, hc, h2] at c
      exact ⟨k, w, i2, f0, gv, gc, hvv, fun u hu => hv u (by omega), h⟩
    · rw [if_neg c] at h
      rw [Int32.le_iff_toInt_le, hc, h2] at c
      obtain ⟨_, _, r1, w2, q1, q2⟩ := h
      have e1 : gR w 1 1 = 3 := sk_fix hS (by decide +kernel) (by decide)
      have e2 : gR w 127 1 = 129 := sk_fix hS (by decide +kernel) (by decide)
      have k1 : gQ w 3 = [some 15, some 17, some 19] := by rw [SK_Q hS]; decide +kernel
      have k2 : gQ w 129 = [some 141, some 143, some 145] := by rw [SK_Q hS]; decide +kernel
      unfold qG at q1
      rw [e1, e2, k1, k2, i_nat h2] at q1
      have ct : t = 0 ∨ t = 1 ∨ t = 2 := by omega
      have vcl_x : ∀ {fs : List (Nat × Nat)} {as : List Nat} (fm : FM fs as w w2), (∀ p, p ∈ [(5, 0), (5, 1), (5, 2), (10, 0), (10, 1), (10, 2)] → p ∉ fs) → (∀ x, x ∈ [5 + 1, 5 + 2, 5 + 3, 5 + 4, 10 + 1, 10 + 2, 10 + 3, 10 + 4] → x ∉ as) → ∀ u, u < vN → ∀ k, vcl w2 (5 + 5 * u) k = vcl w0 (131 + 5 * u) k := by
        intro fs as fm h1 h2 u hu k
        rw [← hvv u hu k]
        have cu : u = 0 ∨ u = 1 := by omega
        rcases cu with rfl | rfl
        · exact vcl_FMv hS fm (by decide +kernel) (h1 _ (by decide)) (h1 _ (by decide)) (h1 _ (by decide)) (h2 _ (by decide)) (h2 _ (by decide)) (h2 _ (by decide)) (h2 _ (by decide)) k
        · exact vcl_FMv hS fm (by decide +kernel) (h1 _ (by decide)) (h1 _ (by decide)) (h1 _ (by decide)) (h2 _ (by decide)) (h2 _ (by decide)) (h2 _ (by decide)) (h2 _ (by decide)) k
      have done : ∀ (fm : FM tF1 tA1 w w2), r1 = none → gI w2 1 3 = gI w 1 3 → (∀ x : Nat, x = 0 → gI w2 1 2 = gI w 1 2 ∧ gA w2 4 = gA w 4 ∧ gI w2 1 5 = gI w 1 5 ∧ gI w2 1 6 = gI w 1 6 ∧ gI w2 1 7 = gI w 1 7) → (∀ u, u < vN → ∀ k, vcl w2 (5 + 5 * u) k = vcl w0 (131 + 5 * u) k) → (∀ u, u < t + 1 → gI w2 (15 + 2 * u) 0 = gI w0 (141 + 2 * u) 0 ∧ ∀ q, q < 270 → (gA w2 (16 + 2 * u)).getD q 0 = (gA w0 (142 + 2 * u)).getD q 0) → _ := fun fm er z1 z2 z3 z4 => ih w2 (t + 1) (i2 + 1) (FM_trans f0 fm) (z1.trans gc) ((z2 0 rfl).1.trans gv) (by rw [zi_inc (n := 3) (by omega) (by omega), h2]; rfl) (by omega) z3 z4 (q2 er fm.2.2.2)
      rcases ct with rfl | rfl | rfl
      · obtain ⟨a1, a2, a3, a4⟩ := F57 hS (a := 15) (s := 141) (by decide +kernel) (by decide +kernel) (by decide) q1
        refine done (FM_mono a2 (by decide) (by decide)) a1 (FM_i a2 (by decide)) (fun x hx => ⟨FM_i a2 (by decide), FM_a a2 (by decide), FM_i a2 (by decide), FM_i a2 (by decide), FM_i a2 (by decide)⟩) (fun u hu k => vcl_x a2 (by decide) (by decide) u hu k) (fun u hu => ?_)
        have cu : u = 0 := by omega
        subst cu
        · refine ⟨?_, fun q hq => ?_⟩
          · show gI w2 15 0 = gI w0 141 0
            rw [a3]; exact FM_i f0 (by decide)
          · show (gA w2 16).getD q 0 = (gA w0 142).getD q 0
            rw [a4 q hq, FM_a f0 (by decide)]
      · obtain ⟨a1, a2, a3, a4⟩ := F57 hS (a := 17) (s := 143) (by decide +kernel) (by decide +kernel) (by decide) q1
        refine done (FM_mono a2 (by decide) (by decide)) a1 (FM_i a2 (by decide)) (fun x hx => ⟨FM_i a2 (by decide), FM_a a2 (by decide), FM_i a2 (by decide), FM_i a2 (by decide), FM_i a2 (by decide)⟩) (fun u hu k => vcl_x a2 (by decide) (by decide) u hu k) (fun u hu => ?_)
        have cu : u = 0 ∨ u = 1 := by omega
        rcases cu with rfl | rfl
        · obtain ⟨y1, y2⟩ := hv 0 (by omega)
          refine ⟨?_, fun q hq => ?_⟩
          · rw [← y1]; exact FM_i a2 (by decide)
          · rw [← y2 q hq, FM_a a2 (by decide)]
        · refine ⟨?_, fun q hq => ?_⟩
          · show gI w2 17 0 = gI w0 143 0
            rw [a3]; exact FM_i f0 (by decide)
          · show (gA w2 18).getD q 0 = (gA w0 144).getD q 0
            rw [a4 q hq, FM_a f0 (by decide)]
      · obtain ⟨a1, a2, a3, a4⟩ := F57 hS (a := 19) (s := 145) (by decide +kernel) (by decide +kernel) (by decide) q1
        refine done (FM_mono a2 (by decide) (by decide)) a1 (FM_i a2 (by decide)) (fun x hx => ⟨FM_i a2 (by decide), FM_a a2 (by decide), FM_i a2 (by decide), FM_i a2 (by decide), FM_i a2 (by decide)⟩) (fun u hu k => vcl_x a2 (by decide) (by decide) u hu k) (fun u hu => ?_)
        have cu : u = 0 ∨ u = 1 ∨ u = 2 := by omega
        rcases cu with rfl | rfl | rfl
        · obtain ⟨y1, y2⟩ := hv 0 (by omega)
          refine ⟨?_, fun q hq => ?_⟩
          · rw [← y1]; exact FM_i a2 (by decide)
          · rw [← y2 q hq, FM_a a2 (by decide)]
        · obtain ⟨y1, y2⟩ := hv 1 (by omega)
          refine ⟨?_, fun q hq => ?_⟩
          · rw [← y1]; exact FM_i a2 (by decide)
          · rw [← y2 q hq, FM_a a2 (by decide)]
        · refine ⟨?_, fun q hq => ?_⟩
          · show gI w2 19 0 = gI w0 145 0
            rw [a3]; exact FM_i f0 (by decide)
          · show (gA w2 20).getD q 0 = (gA w0 146).getD q 0
            rw [a4 q hq, FM_a f0 (by decide)]
theorem F71_1_127 {L : Nat} (hS : SK w) (h0 : 0 ≤ (gI w 127 2).toInt) (h2 : (gI w 127 2).toInt ≤ 2) (h1 : 0 ≤ (gI w 127 3).toInt) (h3 : (gI w 127 3).toInt ≤ 3) (hl : (gI w 127 5).toInt = L) (h6 : L ≤ 600) (h : PS X k 71 0 [.ref 1, .ref 127, pm_dead] [] w r w') : r = none ∧ FM tF1 tA1 w w' ∧ gI w' 1 2 = gI w 127 2 ∧ gI w' 1 3 = gI w 127 3 ∧ gI w' 1 5 = gI w 127 5 ∧ gI w' 1 6 = gI w 127 6 ∧ gI w' 1 7 = gI w 127 7 ∧ (∀ j, j < L → (gA w' 4).getD j 0 = (gA w 130).getD j 0) ∧ (∀ u, u < (gI w 127 2).toInt.toNat → ∀ k, vcl w' (5 + 5 * u) k = vcl w (131 + 5 * u) k) ∧ (∀ u, u < (gI w 127 3).toInt.toNat → gI w' (15 + 2 * u) 0 = gI w (141 + 2 * u) 0 ∧ ∀ q, q < 270 → (gA w' (16 + 2 * u)).getD q 0 = (gA w (142 + 2 * u)).getD q 0) := by
  cases k with
  | zero => exact (PS_0 h).elim
  | succ k =>
    have h := U71_0 hS h _ rfl _ rfl
    have fa : FM tF1 tA1 w (sI w 1 2 (gI w 127 2)) := FM_sI hS (by decide)
    obtain ⟨w2, e2⟩ : ∃ w2, w2 = sI (sI w 1 2 (gI w 127 2)) 1 3 (gI (sI w 1 2 (gI w 127 2)) 127 3) := ⟨_, rfl⟩
    rw [← e2] at h
    have fb : FM tF1 tA1 w w2 := FM_trans fa (by rw [e2]; exact FM_sI fa.2.2.2 (by decide))
    have g2 : gI w2 1 2 = gI w 127 2 := by rw [e2, gI_sI_ne (by decide), gI_sI (SK_isF hS (by decide +kernel))]
    have g3 : gI w2 1 3 = gI w 127 3 := by rw [e2, gI_sI (SK_isF fa.2.2.2 (by decide +kernel)), gI_sI_ne (by decide)]
    obtain ⟨k3, w3, f3, a1, a2, a3, h⟩ := L71v_1_127 (cN := (gI w 127 2).toInt.toNat) hS (by omega) (by omega) _ w2 0 0 fb g2 z32 (Nat.zero_le _) (fun u hu => absurd hu (Nat.not_lt_zero u)) h
    obtain ⟨k4, w4, i4, f4, b1, b2, b3, b4, h⟩ := L71r_1_127 (cN := (gI w 127 3).toInt.toNat) (vN := (gI w 127 2).toInt.toNat) hS (by omega) (by omega) (by omega) _ w3 0 0 f3 (a2.trans g3) a1 z32 (Nat.zero_le _) a3 (fun u hu => absurd hu (Nat.not_lt_zero u)) h
    have S4 := f4.2.2.2
    obtain ⟨hc, h⟩ := h _ rfl
    have h := h _ rfl _ rfl _ rfl
    obtain ⟨w5, e5⟩ : ∃ w5, w5 = sI w4 1 5 (gI w4 127 5) := ⟨_, rfl⟩
    rw [← e5] at h hc
    have f5 : FM [(1, 5)] [] w4 w5 := by rw [e5]; exact FM_sI S4 (by decide)
    have S5 := f5.2.2.2
    have g5 : gI w5 1 5 = gI w 127 5 := by rw [e5, gI_sI (SK_isF S4 (by decide +kernel))]; exact FM_i f4 (by decide)
    have r1 : gR w5 127 4 = 130 := sk_fix S5 (by decide +kernel) (by decide)
    have r2 : gR w5 1 4 = 4 := sk_fix S5 (by decide +kernel) (by decide)
    rw [r1, r2, g5] at h hc
    obtain ⟨w6, e6⟩ : ∃ w6, w6 = cpS w5 130 4 0 0 (gI w 127 5) := ⟨_, rfl⟩
    rw [← e6] at h
    have f6 : FM [] [4] w5 w6 := by rw [e6]; exact FM_cpS hc S5 (by decide)
    have S6 := f6.2.2.2
    have t6 : ∀ j, j < L → (gA w6 4).getD j 0 = (gA w 130).getD j 0 := by
      intro j hj
      rw [e6, cpS_A hc (SK_isA S5 (by decide +kernel)), hl, z32, cpy_getF (by rw [SK_len S5 (a := 130) (n := 600) (by decide +kernel) (by decide)]; show 0 + L ≤ 600; omega) (by rw [SK_len S5 (a := 4) (n := 600) (by decide +kernel) (by decide)]; show 0 + L ≤ 600; omega), if_pos (by show 0 ≤ j ∧ j < 0 + L; omega)]
      show (gA w5 130).getD (0 + (j - 0)) 0 = _
      rw [show 0 + (j - 0) = j by omega, FM_a f5 (by intro z; cases z), FM_a f4 (by decide)]
    obtain ⟨w7, e7⟩ : ∃ w7, w7 = sI w6 1 6 (gI w6 127 6) := ⟨_, rfl⟩
    rw [← e7] at h
    have f7 : FM [(1, 6)] [] w6 w7 := by rw [e7]; exact FM_sI S6 (by decide)
    have S7 := f7.2.2.2
    have f8 : FM [(1, 7)] [] w7 w' := by rw [h.2]; exact FM_sI S7 (by decide)
    have s6 : gI w6 127 6 = gI w 127 6 := by rw [FM_i f6 (by intro z; cases z), FM_i f5 (by decide), FM_i f4 (by decide)]
    have s7 : gI w7 127 7 = gI w 127 7 := by rw [FM_i f7 (by decide), FM_i f6 (by intro z; cases z), FM_i f5 (by decide), FM_i f4 (by decide)]
    have fx : FM [(1, 5), (1, 6), (1, 7)] [4] w4 w' := FM_trans (FM_mono f5 (by decide) (by decide)) (FM_trans (FM_mono f6 (by intro x hx; cases hx) (by decide)) (FM_trans (FM_mono f7 (by decide) (by decide)) (FM_mono f8 (by decide) (by decide))))
    refine ⟨h.1, FM_trans f4 (FM_mono fx (by decide) (by decide)), (FM_i fx (by decide)).trans b1, (FM_i fx (by decide)).trans b2, ?_, ?_, ?_, fun j hj => ?_, fun u hu k => ?_, fun u hu => ?_⟩
    · rw [FM_i f8 (by decide), FM_i f7 (by decide), FM_i f6 (by intro z; cases z)]; exact g5
    · rw [FM_i f8 (by decide), e7, gI_sI (SK_isF S6 (by decide +kernel))]; exact s6
    · rw [h.2, gI_sI (SK_isF S7 (by decide +kernel))]; exact s7
    · rw [FM_a f8 (by intro z; cases z), FM_a f7 (by intro z; cases z)]; exact t6 j hj
    · rw [← b3 u hu k]
      have cu : u = 0 ∨ u = 1 := by omega
      rcases cu with rfl | rfl
      · exact vcl_FMv S4 fx (by decide +kernel) (by decide) (by decide) (by decide) (by decide) (by decide) (by decide) (by decide) k
      · exact vcl_FMv S4 fx (by decide +kernel) (by decide) (by decide) (by decide) (by decide) (by decide) (by decide) (by decide) k
    · obtain ⟨y1, y2⟩ := b4 u hu
      have cu : u = 0 ∨ u = 1 ∨ u = 2 := by omega
      refine ⟨?_, fun q hq => ?_⟩
      · rw [← y1]
        rcases cu with rfl | rfl | rfl <;> exact FM_i fx (by decide)
      · rw [← y2 q hq]
        rcases cu with rfl | rfl | rfl <;> rw [FM_a fx (by decide)]
/-- a told object copied is told alike -/
theorem TE71_1_127 {a : Nat → Int32} (hS : SK w) (hTE : TE w 127 a) (h : PS X k 71 0 [.ref 1, .ref 127, pm_dead] [] w r w') : r = none ∧ FM tF1 tA1 w w' ∧ TE w' 1 a := by
  obtain ⟨⟨r1, r2, r3, r4, r5, r6, r7⟩, t1, t2, t3, t4, t5, t6, t7, t8⟩ := hTE
  obtain ⟨z1, z2, z3, z4, z5, z6, z7, z8, z9, z10⟩ := F71_1_127 (L := (a 2).toInt.toNat) hS (by rw [t1]; exact r1) (by rw [t1]; exact r2) (by rw [t2]; exact r3) (by rw [t2]; exact r4) (by rw [t3]; omega) (by omega) h
  rw [t1] at z9
  rw [t2] at z10
  refine ⟨z1, z2, ⟨r1, r2, r3, r4, r5, r6, r7⟩, z3.trans t1, z4.trans t2, z5.trans t3, z6.trans t4, z7.trans t5, fun j hj => ?_, fun u hu k hk => ?_, fun u hu => ?_⟩
  · show BY ((gA w' 4).getD j 0) _
    rw [z8 j hj]
    exact t6 j hj
  · exact (z9 u hu k).trans (t7 u hu k hk)
  · obtain ⟨y1, y2⟩ := z10 u hu
    obtain ⟨x1, x2⟩ := t8 u hu
    have ra := r7 u hu
    exact ⟨y1.trans x1, fun q hq => (y2 q (by omega)).trans (x2 q hq)⟩
end GR
end
section
/-! ===== feed and end ===== -/
section GS
variable {X : pm_X} {k k2 : Nat} {w0 w w1 w2 w' : pm_W} {r r2 : Option Value} {p p1 p2 p3 p4 p5 f0 p0 f q x : Int32} {n i v j m a s T L : Nat}
theorem and255 (y : Int32) : (y &&& 255).toInt = y.toInt % 256 := by
  have h1 : (y &&& 255).toBitVec.toNat = y.toBitVec.toNat % 256 := by
    show (y.toBitVec &&& 255#32).toNat = _
    rw [BitVec.toNat_and]
    exact Nat.and_two_pow_sub_one_eq_mod y.toBitVec.toNat 8
  have h2 : (y &&& 255).toInt = (y &&& 255).toBitVec.toInt := rfl
  have h3 : y.toInt = y.toBitVec.toInt := rfl
  rw [h2, h3, BitVec.toInt_eq_toNat_cond, BitVec.toInt_eq_toNat_cond, h1]
  have h4 := y.toBitVec.isLt
  have h5 : (2 ^ 32 : Nat) = 4294967296 := by decide
  rw [h5] at h4 ⊢
  split <;> split <;> omega
theorem nbF (v : Int32) : vp_nar .byte v = v.toInt8.toInt32 := rfl
theorem i8_i (y : Int32) : y.toInt8.toInt32.toInt = if y.toInt % 256 < 128 then y.toInt % 256 else y.toInt % 256 - 256 := by
  rw [Int8.toInt_toInt32, Int32.toInt_toInt8, Int.bmod_def]
  have e : ((2 ^ 8 : Nat) : Int) = 256 := by decide
  rw [e]
  have e2 : ((256 : Int) + 1) / 2 = 128 := by decide
  rw [e2]
theorem BY_y (y : Int32) : BY (vp_nar .byte (y.toInt8.toInt32)) (y &&& 255) := by
  have e : (vp_nar .byte (y.toInt8.toInt32)).toInt = if y.toInt % 256 < 128 then y.toInt % 256 else y.toInt % 256 - 256 := by
    rw [nbF, i8_i, i8_i]
    split
    · split <;> omega
    · split <;> omega
  unfold BY
  rw [e, and255]
  split
  · refine ⟨by omega, by omega, ?_⟩
    rw [if_neg (by omega)]
  · refine ⟨by omega, by omega, ?_⟩
    rw [if_pos (by omega)]
    omega
theorem SK_T (hS : SK w) : gT w a = gT sk0 a := by
  unfold gT
  cases hw : w[a]? with
  | none =>
    have e : sk0[a]? = none := by rw [← show w.map sk_e = sk0 from hS, List.getElem?_map, hw]; rfl
    rw [e]
  | some q =>
    rw [SK_at hS hw]
    cases q with
    | inr q => rfl
    | inl q =>
      obtain ⟨t, q⟩ := q
      rcases q with q | q | q <;> rfl
def shI (m : Nat) : Int32 := Int32.ofNat (24 - 8 * m)
def bC (x : Int32) (m : Nat) : Int32 := vp_nar .byte ((x >>> (shI m &&& 31)).toInt8.toInt32)
def bR (x : Int32) (m : Nat) : Int32 := (x >>> (shI m &&& 31)) &&& 255
theorem BY_b : BY (bC x m) (bR x m) := BY_y _
theorem F14_s {i2 : Int32} (hS : SK w) (hL : (gI w 1 5).toInt = L) (h6 : L < 600) (hm : m < 4) (hs : i2 = shI m) (h : PS X k 14 3 [.ref 1, .int x, .int i2] [] w r w') : ∃ (k' : Nat) (w1 : pm_W), FM [(1, 5)] [4] w w1 ∧ (gI w1 1 5).toInt = (L + 1 : Nat) ∧ (∀ j, (gA w1 4).getD j 0 = if j = L then bC x m else (gA w 4).getD j 0) ∧ PS X k' 14 3 [.ref 1, .int x, .int (i2 + (-8))] [] w1 r w' := by
  have cm : m = 0 ∨ m = 1 ∨ m = 2 ∨ m = 3 := by omega
  have sp : ¬ shI m < 0 := by rcases cm with rfl | rfl | rfl | rfl <;> decide +kernel
  cases k with
  | zero => exact (PS_0 h).elim
  | succ k =>
    have h := U14_3 hS h
    rw [hs, if_neg sp, if_neg (by rw [Int32.le_iff_toInt_le, show (600 : Int32).toInt = 600 from by decide +kernel]; omega)] at h
    have r4 : gR w 1 4 = 4 := sk_fix hS (by decide +kernel) (by decide)
    rw [r4] at h
    obtain ⟨hI, h⟩ := h
    have h := h _ rfl _ rfl
    obtain ⟨w1, e1⟩ : ∃ w1, w1 = aB w 4 (gI w 1 5) ((x >>> (shI m &&& 31)).toInt8.toInt32) := ⟨_, rfl⟩
    rw [← e1] at h
    have e1' : w1 = aS w 4 (gI w 1 5) (bC x m) := by
      rw [e1]
      unfold aB
      rw [show gT w 4 = 1 from by rw [SK_T hS]; decide +kernel]
      rfl
    have f1 : FM [(1, 5)] [4] w w1 := by rw [e1']; exact FM_aS hS (by decide)
    have S1 := f1.2.2.2
    have g5 : gI w1 1 5 = gI w 1 5 := by rw [e1', gI_aS]
    rw [g5] at h
    refine ⟨k, sI w1 1 5 (gI w 1 5 + 1), FM_trans f1 (FM_sI S1 (by decide)), ?_, fun j => ?_, by rw [hs]; exact h⟩
    · rw [gI_sI (SK_isF S1 (by decide +kernel)), zi_add hL o32 (by omega) (by omega)]
      rfl
    · rw [gA_sI, e1', gA_aS (SK_isA hS (by decide +kernel)), i_nat hL, getD_set (by rw [SK_len hS (a := 4) (n := 600) (by decide +kernel) (by decide)]; exact h6)]
theorem F14 (hS : SK w) (hL : (gI w 1 5).toInt = L) (h6 : L + 4 ≤ 600) (h : PS X k 14 0 [.ref 1, .int x, pm_dead] [] w r w') : r = none ∧ FM [(1, 5)] [4] w w' ∧ (gI w' 1 5).toInt = (L + 4 : Nat) ∧ ∀ j, (gA w' 4).getD j 0 = if L ≤ j ∧ j < L + 4 then bC x (j - L) else (gA w 4).getD j 0 := by
  cases k with
  | zero => exact (PS_0 h).elim
  | succ k =>
    have h := U14_0 hS h
    obtain ⟨k1, w1, a1, a2, a3, h⟩ := F14_s (m := 0) hS hL (by omega) (by decide) (by decide +kernel) h
    obtain ⟨k2, w2, b1, b2, b3, h⟩ := F14_s (m := 1) a1.2.2.2 a2 (by omega) (by decide) (by decide +kernel) h
    obtain ⟨k3, w3, c1, c2, c3, h⟩ := F14_s (m := 2) b1.2.2.2 b2 (by omega) (by decide) (by decide +kernel) h
    obtain ⟨k4, w4, d1, d2, d3, h⟩ := F14_s (m := 3) c1.2.2.2 c2 (by omega) (by decide) (by decide +kernel) h
    cases k4 with
    | zero => exact (PS_0 h).elim
    | succ k4 =>
      have h := U14_3 d1.2.2.2 h
      rw [if_pos (by decide +kernel)] at h
      rw [h.2]
      refine ⟨h.1, FM_trans a1 (FM_trans b1 (FM_trans c1 d1)), d2, fun j => ?_⟩
      rw [d3, c3, b3, a3]
      by_cases z3 : j = L + 1 + 1 + 1
      · rw [if_pos z3, if_pos (by omega), z3, show L + 1 + 1 + 1 - L = 3 by omega]
      rw [if_neg z3]
      by_cases z2 : j = L + 1 + 1
      · rw [if_pos z2, if_pos (by omega), z2, show L + 1 + 1 - L = 2 by omega]
      rw [if_neg z2]
      by_cases z1 : j = L + 1
      · rw [if_pos z1, if_pos (by omega), z1, show L + 1 - L = 1 by omega]
      rw [if_neg z1]
      by_cases z0 : j = L
      · rw [if_pos z0, if_pos (by omega), z0, Nat.sub_self]
      rw [if_neg z0, if_neg (by omega)]
def n5 (p1 p2 p3 p4 p5 : Int32) (t : Nat) : Int32 := if t < 4 then p1 else if t < 8 then p2 else if t < 12 then p3 else if t < 16 then p4 else p5
theorem F13 (hS : SK w) (hL : (gI w 1 5).toInt = L) (h60 : L ≤ 600) (h : PS X k 13 0 [.ref 0, .int p1, .int p2, .int p3, .int p4, .int p5] [] w r w') : FM [(1, 5)] [4] w w' ∧ ((600 < L + 20 ∧ r = some (.int (-1)) ∧ w' = w) ∨ (L + 20 ≤ 600 ∧ r = some (.int (gI w' 1 5)) ∧ (gI w' 1 5).toInt = (L + 20 : Nat) ∧ ∀ j, (gA w' 4).getD j 0 = if L ≤ j ∧ j < L + 20 then bC (n5 p1 p2 p3 p4 p5 (j - L)) ((j - L) % 4) else (gA w 4).getD j 0)) := by
  cases k with
  | zero => exact (PS_0 h).elim
  | succ k =>
    have h := U13_0 hS h
    have e20 : (20 : Int32).toInt = 20 := by decide +kernel
    have e600 : (600 : Int32).toInt = 600 := by decide +kernel
    by_cases c : gI w 1 5 + 20 ≤ 600
    · rw [if_pos c] at h
      rw [Int32.le_iff_toInt_le, zi_add hL e20 (by omega) (by omega), e600] at c
      obtain ⟨r1, w1, q1, h⟩ := h
      obtain ⟨a1, a2, a3, a4⟩ := F14 hS hL (by omega) q1
      obtain ⟨r2, w2, q2, h⟩ := h a1 a2.2.2.2
      obtain ⟨b1, b2, b3, b4⟩ := F14 a2.2.2.2 a3 (by omega) q2
      obtain ⟨r3, w3, q3, h⟩ := h b1 b2.2.2.2
      obtain ⟨c1, c2, c3, c4⟩ := F14 b2.2.2.2 b3 (by omega) q3
      obtain ⟨r4, w4, q4, h⟩ := h c1 c2.2.2.2
      obtain ⟨d1, d2, d3, d4⟩ := F14 c2.2.2.2 c3 (by omega) q4
      obtain ⟨r5, w5, q5, h⟩ := h d1 d2.2.2.2
      obtain ⟨e1, e2, e3, e4⟩ := F14 d2.2.2.2 d3 (by omega) q5
      obtain ⟨h1, h2⟩ := h e1 e2.2.2.2
      subst w'
      refine ⟨FM_trans a2 (FM_trans b2 (FM_trans c2 (FM_trans d2 e2))), Or.inr ⟨by omega, h1, e3, fun j => ?_⟩⟩
      rw [e4, d4, c4, b4, a4]
      unfold n5
      by_cases z0 : L ≤ j ∧ j < L + 20
      · rw [if_pos z0]
        obtain ⟨t, ht⟩ : ∃ t, t = j - L := ⟨_, rfl⟩
        have hj : j = L + t := by omega
        subst hj
        rw [show L + t - L = t by omega]
        have ht : t < 20 := by omega
        by_cases t4 : t < 4
        · rw [if_neg (by omega), if_neg (by omega), if_neg (by omega), if_neg (by omega), if_pos (by omega), if_pos t4, show t % 4 = t by omega]
        rw [if_neg t4]
        by_cases t8 : t < 8
        · rw [if_neg (by omega), if_neg (by omega), if_neg (by omega), if_pos (by omega), if_pos t8, show L + t - (L + 4) = t % 4 by omega]
        rw [if_neg t8]
        by_cases t12 : t < 12
        · rw [if_neg (by omega), if_neg (by omega), if_pos (by omega), if_pos t12, show L + t - (L + 4 + 4) = t % 4 by omega]
        rw [if_neg t12]
        by_cases t16 : t < 16
        · rw [if_neg (by omega), if_pos (by omega), if_pos t16, show L + t - (L + 4 + 4 + 4) = t % 4 by omega]
        rw [if_neg t16, if_pos (by omega), show L + t - (L + 4 + 4 + 4 + 4) = t % 4 by omega]
      · rw [if_neg z0, if_neg (by omega), if_neg (by omega), if_neg (by omega), if_neg (by omega), if_neg (by omega)]
    · rw [if_neg c] at h
      rw [Int32.le_iff_toInt_le, zi_add hL e20 (by omega) (by omega), e600] at c
      obtain ⟨h1, h2⟩ := h
      subst w'
      exact ⟨FM_refl hS, Or.inl ⟨by omega, h1, rfl⟩⟩
theorem sh_t {t : Nat} {i6 : Int32} (h : i6.toInt = t) (ht : t < 20) : (24 - (8 * (i6 - i6 / 4 * 4)) &&& 31) = shI (t % 4) &&& 31 := by
  have e := i32_of h (by omega)
  have h : (List.range 20).all (fun t => decide ((24 - (8 * (Int32.ofNat t - Int32.ofNat t / 4 * 4)) &&& 31) = shI (t % 4) &&& 31)) = true := by decide +kernel
  have q := List.all_eq_true.mp h t (List.mem_range.mpr ht)
  rw [e]
  exact of_decide_eq_true q
theorem L196 (hL6 : L + 20 ≤ 600) : ∀ (k : Nat) (w : pm_W) (t : Nat) (i6 : Int32) (u7 : Value), SK w → i6.toInt = t → t ≤ 20 → (al w 2).toInt = (L + t : Nat) → PS X k 196 20 [.ref 147, .int p1, .int p2, .int p3, .int p4, .int p5, .int i6, u7] [] w r w' → FM [] [148] w w' ∧ r = some (.int (al w' 2)) ∧ (al w' 2).toInt = (L + 20 : Nat) ∧ ∀ q, q ≠ 2 → al w' q = if 10 + (L + t) ≤ q ∧ q < 10 + (L + 20) then bR (n5 p1 p2 p3 p4 p5 (q - (10 + L))) ((q - (10 + L)) % 4) else al w q := by
  intro k
  have e4 : (4 : Int32).toInt = 4 := four32
  have e8 : (8 : Int32).toInt = 8 := eight32
  have e12 : (12 : Int32).toInt = 12 := by decide +kernel
  have e16 : (16 : Int32).toInt = 16 := by decide +kernel
  have e20 : (20 : Int32).toInt = 20 := by decide +kernel
  induction k with
  | zero => intro w t i6 u7 hS h6 ht hl h; exact (PS_0 h).elim
  | succ k ih =>
    intro w t i6 u7 hS h6 ht hl h
    have h := U196_20 hS h
    have e2 : ∀ w : pm_W, aG w 148 2 = al w 2 := fun w => aG_n (m := 2) two32
    by_cases c : 20 ≤ i6
    · rw [if_pos c] at h
      rw [Int32.le_iff_toInt_le, e20, h6] at c
      obtain ⟨_, h1, h2⟩ := h
      subst w'
      rw [e2] at h1
      refine ⟨FM_refl hS, h1, by rw [hl]; omega, fun q _ => by rw [if_neg (by omega)]⟩
    · rw [if_neg c] at h
      rw [Int32.le_iff_toInt_le, e20, h6] at c
      have go : ∀ y : Int32, y = n5 p1 p2 p3 p4 p5 t → (aI w 148 2 ∧ (aI w 148 (10 + (aG w 148 2)) ∧ (∀ w1 : pm_W, w1 = aS w 148 (10 + (aG w 148 2)) ((y >>> (24 - (8 * (i6 - i6 / 4 * 4)) &&& 31)) &&& 255) → (aI w1 148 2 ∧ (aI w1 148 2 ∧ (∀ w2 : pm_W, w2 = aS w1 148 2 ((aG w1 148 2) + 1) → (PS X k 196 20 [.ref 147, .int p1, .int p2, .int p3, .int p4, .int p5, .int (i6 + 1), .int y] [] w2 r w'))))))) → FM [] [148] w w' ∧ r = some (.int (al w' 2)) ∧ (al w' 2).toInt = (L + 20 : Nat) ∧ ∀ q, q ≠ 2 → al w' q = if 10 + (L + t) ≤ q ∧ q < 10 + (L + 20) then bR (n5 p1 p2 p3 p4 p5 (q - (10 + L))) ((q - (10 + L)) % 4) else al w q := by
        intro y hy z
        obtain ⟨_, _, z⟩ := z
        obtain ⟨_, _, z⟩ := z _ rfl
        have z := z _ rfl
        rw [e2, sh_t h6 (by omega)] at z
        have ei : (10 + al w 2).toInt = (10 + (L + t) : Nat) := by rw [zi_add ten32 hl (by omega) (by omega)]; rfl
        obtain ⟨w1, e1⟩ : ∃ w1, w1 = aS w 148 (10 + al w 2) ((y >>> (shI (t % 4) &&& 31)) &&& 255) := ⟨_, rfl⟩
        rw [← e1, e2] at z
        have f1 : FM [] [148] w w1 := by rw [e1]; exact FM_aS hS (by decide)
        have S1 := f1.2.2.2
        have a1 : ∀ q, al w1 q = if q = 10 + (L + t) then bR y (t % 4) else al w q := fun q => by
          rw [e1, al_aS hS ei (by omega)]
          rfl
        have a12 : al w1 2 = al w 2 := by rw [a1, if_neg (by omega)]
        rw [a12] at z
        obtain ⟨w2, e2'⟩ : ∃ w2, w2 = aS w1 148 2 (al w 2 + 1) := ⟨_, rfl⟩
        rw [← e2'] at z
        have f2 : FM [] [148] w1 w2 := by rw [e2']; exact FM_aS S1 (by decide)
        have a2 : ∀ q, al w2 q = if q = 2 then al w 2 + 1 else al w1 q := fun q => by rw [e2', al_aS S1 two32 (by decide)]
        obtain ⟨b1, b2, b3, b4⟩ := ih w2 (t + 1) (i6 + 1) _ f2.2.2.2 (by rw [zi_inc (n := 20) (by omega) (by omega), h6]; rfl) (by omega) (by rw [a2, if_pos rfl, zi_add hl o32 (by omega) (by omega)]; omega) z
        refine ⟨FM_trans f1 (FM_trans f2 b1), b2, b3, fun q hq => ?_⟩
        rw [b4 q hq, a2, if_neg hq, a1]
        by_cases y1 : 10 + (L + (t + 1)) ≤ q ∧ q < 10 + (L + 20)
        · rw [if_pos y1, if_pos (by omega)]
        · rw [if_neg y1]
          by_cases y2 : q = 10 + (L + t)
          · rw [if_pos y2, if_pos (by omega), hy, show q - (10 + L) = t by omega]
          · rw [if_neg y2, if_neg (by omega)]
      unfold n5 at go
      by_cases c4 : 4 ≤ i6
      · rw [if_pos c4] at h
        rw [Int32.le_iff_toInt_le, e4, h6] at c4
        rw [if_neg (show ¬ t < 4 by omega)] at go
        by_cases c8 : 8 ≤ i6
        · rw [if_pos c8] at h
          rw [Int32.le_iff_toInt_le, e8, h6] at c8
          rw [if_neg (show ¬ t < 8 by omega)] at go
          by_cases c12 : 12 ≤ i6
          · rw [if_pos c12] at h
            rw [Int32.le_iff_toInt_le, e12, h6] at c12
            rw [if_neg (show ¬ t < 12 by omega)] at go
            by_cases c16 : 16 ≤ i6
            · rw [if_pos c16] at h
              rw [Int32.le_iff_toInt_le, e16, h6] at c16
              rw [if_neg (show ¬ t < 16 by omega)] at go
              exact go _ rfl h
            · rw [if_neg c16] at h
              rw [Int32.le_iff_toInt_le, e16, h6] at c16
              rw [if_pos (show t < 16 by omega)] at go
              exact go _ rfl h
          · rw [if_neg c12] at h
            rw [Int32.le_iff_toInt_le, e12, h6] at c12
            rw [if_pos (show t < 12 by omega)] at go
            exact go _ rfl h
        · rw [if_neg c8] at h
          rw [Int32.le_iff_toInt_le, e8, h6] at c8
          rw [if_pos (show t < 8 by omega)] at go
          exact go _ rfl h
      · rw [if_neg c4] at h
        rw [Int32.le_iff_toInt_le, e4, h6] at c4
        rw [if_pos (show t < 4 by omega)] at go
        exact go _ rfl h
theorem F196 (hS : SK w) (hL : (al w 2).toInt = L) (h60 : L ≤ 600) (h : PS X k 196 0 [.ref 147, .int p1, .int p2, .int p3, .int p4, .int p5, pm_dead, pm_dead] [] w r w') : FM [] [148] w w' ∧ ((600 < L + 20 ∧ r = some (.int (-1)) ∧ w' = w) ∨ (L + 20 ≤ 600 ∧ r = some (.int (al w' 2)) ∧ (al w' 2).toInt = (L + 20 : Nat) ∧ ∀ q, q ≠ 2 → al w' q = if 10 + L ≤ q ∧ q < 10 + (L + 20) then bR (n5 p1 p2 p3 p4 p5 (q - (10 + L))) ((q - (10 + L)) % 4) else al w q)) := by
  cases k with
  | zero => exact (PS_0 h).elim
  | succ k =>
    obtain ⟨_, h⟩ := U196_0 hS h
    have e20 : (20 : Int32).toInt = 20 := by decide +kernel
    have e600 : (600 : Int32).toInt = 600 := by decide +kernel
    rw [show aG w 148 2 = al w 2 from aG_n (m := 2) two32] at h
    by_cases c : al w 2 + 20 ≤ 600
    · rw [if_pos c] at h
      rw [Int32.le_iff_toInt_le, zi_add hL e20 (by omega) (by omega), e600] at c
      obtain ⟨a1, a2, a3, a4⟩ := L196 (L := L) (by omega) _ w 0 0 _ hS z32 (by decide) (by rw [hL]; rfl) h
      exact ⟨a1, Or.inr ⟨by omega, a2, a3, a4⟩⟩
    · rw [if_neg c] at h
      rw [Int32.le_iff_toInt_le, zi_add hL e20 (by omega) (by omega), e600] at c
      obtain ⟨h1, h2⟩ := h
      subst w'
      exact ⟨FM_refl hS, Or.inl ⟨by omega, h1, rfl⟩⟩
/-- what is told by others than the tape -/
theorem TE_tp {L' : Nat} {as : List Nat} {fs : List (Nat × Nat)} (hS : SK w) (hTE : TE w 1 (al w)) (fm : FM fs as w w2) (hf : ∀ p, p ∈ [((1, 2) : Nat × Nat), (1, 3), (1, 6), (1, 7), (5, 0), (5, 1), (5, 2), (10, 0), (10, 1), (10, 2), (15, 0), (17, 0), (19, 0)] → p ∉ fs) (ha : ∀ x, x ∈ [6, 7, 8, 9, 11, 12, 13, 14, 16, 18, 20] → x ∉ as) (h5 : gI w2 1 5 = al w2 2) (h5' : (al w2 2).toInt = L') (h6 : L' ≤ 600) (hal : ∀ q, q ≠ 2 → (q < 10 ∨ 610 ≤ q) → al w2 q = al w q) (ht : ∀ j, j < L' → BY ((gA w2 4).getD j 0) (al w2 (10 + j))) : TE w2 1 (al w2) := by
  obtain ⟨⟨r1, r2, r3, r4, r5, r6, r7⟩, t1, t2, t3, t4, t5, t6, t7, t8⟩ := hTE
  have e0 := hal 0 (by decide) (by decide)
  have e1 := hal 1 (by decide) (by decide)
  refine ⟨⟨?_, ?_, ?_, ?_, ?_, ?_, ?_⟩, ?_, ?_, h5, ?_, ?_, ?_, ?_, ?_⟩
  · rw [e0]; exact r1
  · rw [e0]; exact r2
  · rw [e1]; exact r3
  · rw [e1]; exact r4
  · omega
  · omega
  · intro u hu
    rw [e1] at hu
    rw [hal _ (by omega) (by omega)]
    exact r7 u hu
  · rw [FM_i fm (hf _ (by decide)), e0]; exact t1
  · rw [FM_i fm (hf _ (by decide)), e1]; exact t2
  · rw [FM_i fm (hf _ (by decide)), hal 3 (by decide) (by decide)]; exact t4
  · rw [FM_i fm (hf _ (by decide)), hal 4 (by decide) (by decide)]; exact t5
  · intro j hj
    exact ht j (by omega)
  · intro u hu k hk
    rw [e0] at hu
    rw [hal _ (by omega) (by omega), ← t7 u hu k hk]
    have c : u = 0 ∨ u = 1 := by omega
    rcases c with rfl | rfl
    · exact vcl_FMv hS fm (by decide +kernel) (hf _ (by decide)) (hf _ (by decide)) (hf _ (by decide)) (ha _ (by decide)) (ha _ (by decide)) (ha _ (by decide)) (ha _ (by decide)) k
    · exact vcl_FMv hS fm (by decide +kernel) (hf _ (by decide)) (hf _ (by decide)) (hf _ (by decide)) (ha _ (by decide)) (ha _ (by decide)) (ha _ (by decide)) (ha _ (by decide)) k
  · intro u hu
    rw [e1] at hu
    rw [hal _ (by omega) (by omega)]
    obtain ⟨y1, y2⟩ := t8 u hu
    have c : u = 0 ∨ u = 1 ∨ u = 2 := by omega
    refine ⟨?_, fun q hq => ?_⟩
    · rw [← y1]
      rcases c with rfl | rfl | rfl <;> exact FM_i fm (hf _ (by decide))
    · rw [hal _ (by omega) (by omega), ← y2 q hq]
      rcases c with rfl | rfl | rfl <;> rw [FM_a fm (ha _ (by decide))]
theorem FEED (hS : SK w) (hTE : TE w 1 (al w)) (h1 : PS X k 13 0 [.ref 0, .int p1, .int p2, .int p3, .int p4, .int p5] [] w r w1) (h2 : PS X k2 196 0 [.ref 147, .int p1, .int p2, .int p3, .int p4, .int p5, pm_dead, pm_dead] [] w1 r2 w2) : r2 = r ∧ TE w2 1 (al w2) ∧ FM [(1, 5)] [4, 148] w w2 ∧ ∀ q, 1690 ≤ q → al w2 q = al w q := by
  have hT := hTE
  obtain ⟨⟨r1, r2', r3, r4, r5, r6, r7⟩, t1, t2, t3, t4, t5, t6, t7, t8⟩ := hT
  obtain ⟨a1, A⟩ := F13 (L := (al w 2).toInt.toNat) hS (by rw [t3]; omega) (by omega) h1
  have ea : al w1 = al w := al_FM a1 (by decide)
  obtain ⟨b1, B⟩ := F196 (L := (al w 2).toInt.toNat) a1.2.2.2 (by rw [ea]; omega) (by omega) h2
  rw [ea] at B
  have fa : FM [(1, 5)] [4, 148] w w2 := FM_trans (FM_mono a1 (by decide) (by decide)) (FM_mono b1 (by intro x hx; cases hx) (by decide))
  rcases A with ⟨c1, c2, c3⟩ | ⟨c1, c2, c3, c4⟩
  · rcases B with ⟨d1, d2, d3⟩ | ⟨d1, _⟩
    · subst w1
      subst w2
      exact ⟨by rw [c2, d2], hTE, fa, fun q _ => rfl⟩
    · omega
  · rcases B with ⟨d1, _⟩ | ⟨d1, d2, d3, d4⟩
    · omega
    · have e5 : gI w2 1 5 = al w2 2 := by
        rw [FM_i b1 (by intro z; cases z)]
        exact Int32.toInt_inj.mp (c3.trans d3.symm)
      refine ⟨?_, ?_, fa, fun q hq => ?_⟩
      · rw [c2, d2, ← e5, FM_i b1 (by intro z; cases z)]
      · refine TE_tp hS hTE fa (by decide) (by decide) e5 d3 d1 (fun q hq hq2 => ?_) (fun j hj => ?_)
        · rw [d4 q hq, if_neg (by omega)]
        · rw [FM_a b1 (by decide), c4, d4 _ (by omega)]
          by_cases z : (al w 2).toInt.toNat ≤ j
          · rw [if_pos (by omega), if_pos (by omega), show 10 + j - (10 + (al w 2).toInt.toNat) = j - (al w 2).toInt.toNat by omega]
            exact BY_b
          · rw [if_neg (by omega), if_neg (by omega)]
            exact t6 j (by omega)
      · rw [d4 q (by omega), if_neg (by omega)]
theorem ENDS (hS : SK w) (hTE : TE w 1 (al w)) (h1 : PS X k 15 0 [.ref 0, .int p1] [] w r w1) (h2 : PS X k2 197 0 [.ref 147, .int p1] [] w1 r2 w2) : r2 = r ∧ TE w2 1 (al w2) ∧ FM [(1, 5)] [4, 148] w w2 ∧ ∀ q, 1690 ≤ q → al w2 q = al w q := by
  have hT := hTE
  obtain ⟨⟨r1, r2', r3, r4, r5, r6, r7⟩, t1, t2, t3, t4, t5, t6, t7, t8⟩ := hT
  cases k with
  | zero => exact (PS_0 h1).elim
  | succ k =>
    cases k2 with
    | zero => exact (PS_0 h2).elim
    | succ k2 =>
      have h1 := U15_0 hS h1
      rw [t3] at h1
      by_cases c : p1 < 0
      · rw [if_pos c] at h1
        obtain ⟨a1, a2⟩ := h1
        subst w1
        have h2 := U197_0 hS h2
        rw [if_pos c] at h2
        obtain ⟨b1, b2⟩ := h2
        subst w2
        exact ⟨by rw [a1, b1], hTE, FM_refl hS, fun q _ => rfl⟩
      · rw [if_neg c] at h1
        by_cases c2 : p1 ≤ al w 2
        · rw [if_pos c2] at h1
          obtain ⟨a1, a2⟩ := h1 _ rfl
          have f1 : FM [(1, 5)] [4, 148] w w1 := by rw [a2]; exact FM_sI hS (by decide)
          have ea : al w1 = al w := by funext q; rw [a2]; unfold al; rw [gA_sI]
          have h2 := U197_0 f1.2.2.2 h2
          rw [if_neg c] at h2
          obtain ⟨_, h2⟩ := h2
          rw [show aG w1 148 2 = al w1 2 from aG_n (m := 2) two32, ea, if_pos c2] at h2
          obtain ⟨_, h2⟩ := h2
          obtain ⟨b1, b2⟩ := h2 _ rfl
          have f2 : FM [(1, 5)] [4, 148] w1 w2 := by rw [b2]; exact FM_aS f1.2.2.2 (by decide)
          have al2 : ∀ q, al w2 q = if q = 2 then p1 else al w q := fun q => by rw [b2, al_aS f1.2.2.2 two32 (by decide), ea]
          rw [Int32.lt_iff_toInt_lt, z32] at c
          rw [Int32.le_iff_toInt_le] at c2
          refine ⟨by rw [a1, b1], ?_, FM_trans f1 f2, fun q hq => by rw [al2, if_neg (by omega)]⟩
          have e5 : gI w2 1 5 = al w2 2 := by
            rw [al2, if_pos rfl, b2, gI_aS, a2, gI_sI (SK_isF hS (by decide +kernel))]
          refine TE_tp (L' := p1.toInt.toNat) hS hTE (FM_trans f1 f2) (by decide) (by decide) e5 (by rw [al2, if_pos rfl]; omega) (by omega) (fun q hq _ => by rw [al2, if_neg hq]) (fun j hj => ?_)
          rw [al2, if_neg (by omega), b2, gA_aS_ne (by decide), a2, gA_sI]
          exact t6 j (by omega)
        · rw [if_neg c2] at h1
          obtain ⟨a1, a2⟩ := h1
          subst w1
          have h2 := U197_0 hS h2
          rw [if_neg c] at h2
          obtain ⟨_, h2⟩ := h2
          rw [show aG w 148 2 = al w 2 from aG_n (m := 2) two32, if_neg c2] at h2
          obtain ⟨b1, b2⟩ := h2
          subst w2
          exact ⟨by rw [a1, b1], hTE, FM_refl hS, fun q _ => rfl⟩
end GS
end
section
/-! ===== image and again ===== -/
section GTI
variable {X : pm_X} {k k2 : Nat} {w0 w w1 w2 w' : pm_W} {r r2 : Option Value} {p p1 p2 p3 p4 p5 f0 p0 f q x : Int32} {n i v j m s T L : Nat} {a : Nat → Int32}
def tFs (T : Nat) : List (Nat × Nat) := [(T, 2), (T, 3), (T, 5), (T, 6), (T, 7), (T + 4, 0), (T + 4, 1), (T + 4, 2), (T + 9, 0), (T + 9, 1), (T + 9, 2), (T + 14, 0), (T + 16, 0), (T + 18, 0)]
def tAs (T : Nat) : List Nat := [T + 3, T + 5, T + 6, T + 7, T + 8, T + 10, T + 11, T + 12, T + 13, T + 15, T + 17, T + 19]
theorem TE_cg {b : Nat → Int32} (h : TE w T a) (e : ∀ q, q < 1690 → b q = a q) : TE w T b := by
  obtain ⟨⟨r1, r2, r3, r4, r5, r6, r7⟩, t1, t2, t3, t4, t5, t6, t7, t8⟩ := h
  have e0 := e 0 (by decide)
  have e1 := e 1 (by decide)
  have e2 := e 2 (by decide)
  refine ⟨⟨by rw [e0]; exact r1, by rw [e0]; exact r2, by rw [e1]; exact r3, by rw [e1]; exact r4, by rw [e2]; exact r5, by rw [e2]; exact r6, fun u hu => ?_⟩, by rw [e0]; exact t1, by rw [e1]; exact t2, by rw [e2]; exact t3, by rw [e 3 (by decide)]; exact t4, by rw [e 4 (by decide)]; exact t5, fun j hj => ?_, fun u hu k hk => ?_, fun u hu => ?_⟩
  · rw [e1] at hu
    rw [e _ (by omega)]
    exact r7 u hu
  · rw [e2] at hj
    rw [e _ (by omega)]
    exact t6 j hj
  · rw [e0] at hu
    rw [e _ (by omega)]
    exact t7 u hu k hk
  · rw [e1] at hu
    have ra := r7 u hu
    obtain ⟨y1, y2⟩ := t8 u hu
    rw [e (874 + 272 * u) (by omega)]
    exact ⟨y1, fun q hq => by rw [e _ (by omega)]; exact y2 q hq⟩
theorem TE_fm {fs : List (Nat × Nat)} {as : List Nat} (hS : SK w) (ok1 : okV (T + 4) = true) (ok2 : okV (T + 9) = true) (h : TE w T a) (fm : FM fs as w w') (hf : ∀ p, p ∈ tFs T → p ∉ fs) (ha : ∀ x, x ∈ tAs T → x ∉ as) : TE w' T a := by
  obtain ⟨⟨r1, r2, r3, r4, r5, r6, r7⟩, t1, t2, t3, t4, t5, t6, t7, t8⟩ := h
  refine ⟨⟨r1, r2, r3, r4, r5, r6, r7⟩, ?_, ?_, ?_, ?_, ?_, fun j hj => ?_, fun u hu k hk => ?_, fun u hu => ?_⟩
  · rw [FM_i fm (hf _ (by simp [tFs]))]; exact t1
  · rw [FM_i fm (hf _ (by simp [tFs]))]; exact t2
  · rw [FM_i fm (hf _ (by simp [tFs]))]; exact t3
  · rw [FM_i fm (hf _ (by simp [tFs]))]; exact t4
  · rw [FM_i fm (hf _ (by simp [tFs]))]; exact t5
  · rw [FM_a fm (ha _ (by simp [tAs]))]; exact t6 j hj
  · rw [← t7 u hu k hk]
    have c : u = 0 ∨ u = 1 := by omega
    rcases c with rfl | rfl
    · exact vcl_FMv hS fm ok1 (hf _ (by simp [tFs])) (hf _ (by simp [tFs])) (hf _ (by simp [tFs])) (ha _ (by simp [tAs])) (ha _ (by simp [tAs])) (ha _ (by simp [tAs])) (ha _ (by simp [tAs])) k
    · exact vcl_FMv hS fm ok2 (hf _ (by simp [tFs])) (hf _ (by simp [tFs])) (hf _ (by simp [tFs])) (ha _ (by simp [tAs])) (ha _ (by simp [tAs])) (ha _ (by simp [tAs])) (ha _ (by simp [tAs])) k
  · obtain ⟨y1, y2⟩ := t8 u hu
    have c : u = 0 ∨ u = 1 ∨ u = 2 := by omega
    refine ⟨?_, fun q hq => ?_⟩
    · rw [← y1]
      rcases c with rfl | rfl | rfl
      · exact FM_i fm (hf _ (by simp [tFs]))
      · exact FM_i fm (hf _ (by simp [tFs]))
      · exact FM_i fm (hf _ (by simp [tFs]))
    · rw [← y2 q hq]
      rcases c with rfl | rfl | rfl
      · rw [FM_a fm (ha _ (by simp [tAs]))]
      · rw [FM_a fm (ha _ (by simp [tAs]))]
      · rw [FM_a fm (ha _ (by simp [tAs]))]
def IM (w : pm_W) : Prop := ∀ k, k < 3 → (gA w 22).getD k 0 = (gA w 149).getD k 0 ∧ ((gA w 149).getD k 0 ≠ 0 → TE w (87 + 20 * k) (fun q => al w (1690 * (k + 1) + q)))
/-- what is told, and the images, are alike on both sides -/
def RL2 (w : pm_W) : Prop := SK w ∧ TE w 1 (al w) ∧ IM w
theorem okI {κ : Nat} (h : κ < 3) : okV (87 + 20 * κ + 4) = true ∧ okV (87 + 20 * κ + 9) = true := by
  have c : κ = 0 ∨ κ = 1 ∨ κ = 2 := by omega
  rcases c with rfl | rfl | rfl <;> decide +kernel
/-- another call that leaves told things alone -/
theorem IM_fm {fs : List (Nat × Nat)} {as : List Nat} (hS : SK w) (h : IM w) (fm : FM fs as w w2) (hf : ∀ k, k < 3 → ∀ p, p ∈ tFs (87 + 20 * k) → p ∉ fs) (ha : ∀ k, k < 3 → ∀ x, x ∈ tAs (87 + 20 * k) → x ∉ as) (a22 : 22 ∉ as) (a149 : 149 ∉ as) (hal : ∀ q, 1690 ≤ q → al w2 q = al w q) : IM w2 := by
  intro k hk
  obtain ⟨h1, h2⟩ := h k hk
  rw [FM_a fm a22, FM_a fm a149]
  refine ⟨h1, fun z => ?_⟩
  have q := TE_fm hS (okI hk).1 (okI hk).2 (h2 z) fm (hf k hk) (ha k hk)
  exact TE_cg q (fun q _ => hal _ (by omega))
theorem three_k {P : Nat → Prop} (h0 : P 0) (h1 : P 1) (h2 : P 2) : ∀ k, k < 3 → P k := by
  intro k hk
  have c : k = 0 ∨ k = 1 ∨ k = 2 := by omega
  rcases c with rfl | rfl | rfl <;> assumption
theorem RTXT (hX : XO X) (h : RL2 w) (h1 : PS X k 16 0 [.ref 0, .int p1, .int p2, pm_dead, pm_dead] [] w r w1) (h2 : PS X k2 198 0 [.ref 147, .int p1, .int p2, pm_dead, pm_dead, pm_dead] [] w1 r2 w2) : r2 = r ∧ RL2 w2 := by
  obtain ⟨hS, hT, hI⟩ := h
  obtain ⟨a1, a2, a3, a4⟩ := TXT hX hS hT h1 h2
  exact ⟨a1, a3.2.2.2, a2, IM_fm hS hI a3 (three_k (by decide) (by decide) (by decide)) (three_k (by decide) (by decide) (by decide)) (by decide) (by decide) a4⟩
theorem RFEED (h : RL2 w) (h1 : PS X k 13 0 [.ref 0, .int p1, .int p2, .int p3, .int p4, .int p5] [] w r w1) (h2 : PS X k2 196 0 [.ref 147, .int p1, .int p2, .int p3, .int p4, .int p5, pm_dead, pm_dead] [] w1 r2 w2) : r2 = r ∧ RL2 w2 := by
  obtain ⟨hS, hT, hI⟩ := h
  obtain ⟨a1, a2, a3, a4⟩ := FEED hS hT h1 h2
  exact ⟨a1, a3.2.2.2, a2, IM_fm hS hI a3 (three_k (by decide) (by decide) (by decide)) (three_k (by decide) (by decide) (by decide)) (by decide) (by decide) a4⟩
theorem RENDS (h : RL2 w) (h1 : PS X k 15 0 [.ref 0, .int p1] [] w r w1) (h2 : PS X k2 197 0 [.ref 147, .int p1] [] w1 r2 w2) : r2 = r ∧ RL2 w2 := by
  obtain ⟨hS, hT, hI⟩ := h
  obtain ⟨a1, a2, a3, a4⟩ := ENDS hS hT h1 h2
  exact ⟨a1, a3.2.2.2, a2, IM_fm hS hI a3 (three_k (by decide) (by decide) (by decide)) (three_k (by decide) (by decide) (by decide)) (by decide) (by decide) a4⟩
/-- the class's images -/
theorem F71_img {κ : Nat} (hκ : κ < 3) (hS : SK w) (hTE : TE w 1 a) (h : PS X k 71 0 [.ref (87 + 20 * κ), .ref 1, pm_dead] [] w r w') : r = none ∧ FM (tFs (87 + 20 * κ)) (tAs (87 + 20 * κ)) w w' ∧ TE w' (87 + 20 * κ) a := by
  have c : κ = 0 ∨ κ = 1 ∨ κ = 2 := by omega
  rcases c with rfl | rfl | rfl
  · exact TE71_87_1 hS hTE h
  · exact TE71_107_1 hS hTE h
  · exact TE71_127_1 hS hTE h
theorem F71_agn {κ : Nat} (hκ : κ < 3) (hS : SK w) (hTE : TE w (87 + 20 * κ) a) (h : PS X k 71 0 [.ref 1, .ref (87 + 20 * κ), pm_dead] [] w r w') : r = none ∧ FM (tFs 1) (tAs 1) w w' ∧ TE w' 1 a := by
  have c : κ = 0 ∨ κ = 1 ∨ κ = 2 := by omega
  rcases c with rfl | rfl | rfl
  · exact TE71_1_87 hS hTE h
  · exact TE71_1_107 hS hTE h
  · exact TE71_1_127 hS hTE h
theorem q21 {κ : Nat} (hκ : κ < 3) (hS : SK w) (h : x.toInt = κ) : qG w 21 x = 87 + 20 * κ := by
  unfold qG
  rw [show gQ w 21 = [some 87, some 107, some 127] from by rw [SK_Q hS]; decide +kernel, i_nat h]
  have c : κ = 0 ∨ κ = 1 ∨ κ = 2 := by omega
  rcases c with rfl | rfl | rfl <;> rfl
theorem aB_b {y : Int32} {κ : Nat} (hS : SK w) (ha : gT sk0 s = 2) (hA : sk_a s = true) (hl : sk_l s = 3) (h : y.toInt = κ) (hκ : κ < 3) (j : Nat) : (gA (aB w s y 1) s).getD j 0 = if j = κ then 1 else (gA w s).getD j 0 := by
  unfold aB
  rw [show gT w s = 2 from by rw [SK_T hS]; exact ha]
  show (gA (aS w s y (vp_nar .boolean 1)) s).getD j 0 = _
  rw [show vp_nar .boolean 1 = 1 from by decide +kernel, gA_aS (SK_isA hS hA), i_nat h, getD_set (by rw [SK_len hS hl (by decide)]; exact hκ)]
theorem FM_aB {fs : List (Nat × Nat)} {as : List Nat} {y z : Int32} (hS : SK w) (h : s ∈ as) : FM fs as w (aB w s y z) := FM_aS hS h
theorem L316 {i1 : Int32} {κ : Nat} (hκ : κ < 3) (h1 : i1.toInt = κ) : ∀ (k : Nat) (w : pm_W) (t : Nat) (i2 : Int32), SK w → i2.toInt = t → t ≤ 1690 → PS X k 316 20 [.ref 147, .int i1, .int i2] [] w r w' → r = some (.int 1) ∧ FM [] [148] w w' ∧ ∀ q, al w' q = if 1690 * (κ + 1) + t ≤ q ∧ q < 1690 * (κ + 1) + 1690 then al w (q - 1690 * (κ + 1)) else al w q := by
  intro k
  have e1690 : (1690 : Int32).toInt = 1690 := by decide +kernel
  induction k with
  | zero => intro w t i2 hS h2 ht h; exact (PS_0 h).elim
  | succ k ih =>
    intro w t i2 hS h2 ht h
    have h := U316_20 hS h
    by_cases c : 1690 ≤ i2
    · rw [if_pos c] at h
      rw [Int32.le_iff_toInt_le, e1690, h2] at c
      obtain ⟨a1, a2⟩ := h
      subst w'
      exact ⟨a1, FM_refl hS, fun q => by rw [if_neg (by omega)]⟩
    · rw [if_neg c] at h
      rw [Int32.le_iff_toInt_le, e1690, h2] at c
      obtain ⟨_, _, h⟩ := h
      have h := h _ rfl
      have ei : (1690 * (i1 + 1) + i2).toInt = (1690 * (κ + 1) + t : Nat) := by
        rw [zi_add (zi_mul e1690 (zi_add h1 o32 (by omega) (by omega)) (by omega) (by omega)) h2 (by omega) (by omega)]
        omega
      rw [aG_n (m := t) h2] at h
      have f1 : FM [] [148] w (aS w 148 (1690 * (i1 + 1) + i2) ((gA w 148).getD t 0)) := FM_aS hS (by decide)
      obtain ⟨a1, a2, a3⟩ := ih _ (t + 1) (i2 + 1) f1.2.2.2 (by rw [zi_inc (n := 1690) (by omega) (by omega), h2]; rfl) (by omega) h
      refine ⟨a1, FM_trans f1 a2, fun q => ?_⟩
      rw [a3, al_aS hS ei (by omega), al_aS hS ei (by omega)]
      by_cases y1 : 1690 * (κ + 1) + (t + 1) ≤ q ∧ q < 1690 * (κ + 1) + 1690
      · rw [if_pos y1, if_neg (by omega), if_pos (by omega)]
      · rw [if_neg y1]
        by_cases y2 : q = 1690 * (κ + 1) + t
        · rw [if_pos y2, if_pos (by omega), y2, show 1690 * (κ + 1) + t - 1690 * (κ + 1) = t by omega]
          rfl
        · rw [if_neg y2, if_neg (by omega)]
theorem L317 {i1 : Int32} {κ : Nat} (hκ : κ < 3) (h1 : i1.toInt = κ) : ∀ (k : Nat) (w : pm_W) (t : Nat) (i2 : Int32), SK w → i2.toInt = t → t ≤ 1690 → PS X k 317 22 [.ref 147, .int i1, .int i2] [] w r w' → r = some (.int 1) ∧ FM [] [148] w w' ∧ ∀ q, al w' q = if t ≤ q ∧ q < 1690 then al w (1690 * (κ + 1) + q) else al w q := by
  intro k
  have e1690 : (1690 : Int32).toInt = 1690 := by decide +kernel
  induction k with
  | zero => intro w t i2 hS h2 ht h; exact (PS_0 h).elim
  | succ k ih =>
    intro w t i2 hS h2 ht h
    have h := U317_22 hS h
    by_cases c : 1690 ≤ i2
    · rw [if_pos c] at h
      rw [Int32.le_iff_toInt_le, e1690, h2] at c
      obtain ⟨a1, a2⟩ := h
      subst w'
      exact ⟨a1, FM_refl hS, fun q => by rw [if_neg (by omega)]⟩
    · rw [if_neg c] at h
      rw [Int32.le_iff_toInt_le, e1690, h2] at c
      obtain ⟨_, _, h⟩ := h
      have h := h _ rfl
      have ei : (1690 * (i1 + 1) + i2).toInt = (1690 * (κ + 1) + t : Nat) := by
        rw [zi_add (zi_mul e1690 (zi_add h1 o32 (by omega) (by omega)) (by omega) (by omega)) h2 (by omega) (by omega)]
        omega
      rw [aG_n (m := 1690 * (κ + 1) + t) ei] at h
      have f1 : FM [] [148] w (aS w 148 i2 ((gA w 148).getD (1690 * (κ + 1) + t) 0)) := FM_aS hS (by decide)
      obtain ⟨a1, a2, a3⟩ := ih _ (t + 1) (i2 + 1) f1.2.2.2 (by rw [zi_inc (n := 1690) (by omega) (by omega), h2]; rfl) (by omega) h
      refine ⟨a1, FM_trans f1 a2, fun q => ?_⟩
      rw [a3, al_aS hS h2 (by omega), al_aS hS h2 (by omega)]
      by_cases y1 : t + 1 ≤ q ∧ q < 1690
      · rw [if_pos y1, if_neg (by omega), if_pos (by omega)]
      · rw [if_neg y1]
        by_cases y2 : q = t
        · rw [if_pos y2, if_pos (by omega), y2]
          rfl
        · rw [if_neg y2, if_neg (by omega)]
theorem isI_3 {y : Int32} : isI p1 0 2 = true ↔ 0 ≤ p1.toInt ∧ p1.toInt < 3 := by
  unfold isI
  rw [Bool.and_eq_true, decide_eq_true_iff, decide_eq_true_iff, z32, two32]
  omega
theorem RIMG (h : RL2 w) (h1 : PS X k 70 0 [.ref 0, .int p1] [] w r w1) (h2 : PS X k2 316 0 [.ref 147, .int p1, pm_dead] [] w1 r2 w2) : r2 = r ∧ RL2 w2 := by
  obtain ⟨hS, hT, hI⟩ := h
  have e3 : (3 : Int32).toInt = 3 := three32
  cases k with
  | zero => exact (PS_0 h1).elim
  | succ k =>
    cases k2 with
    | zero => exact (PS_0 h2).elim
    | succ k2 =>
      have h1 := U70_0 hS h1
      have non : ¬ (0 ≤ p1.toInt ∧ p1.toInt < 3) → r = some (.int 0) ∧ w1 = w → r2 = r ∧ RL2 w2 := by
        rintro hn ⟨a1, a2⟩
        subst w1
        have h2 := use_p hS (U316_0 hS h2) (fun _ _ z => F199 hS z)
        have hf : isI p1 0 2 = false := by
          cases hh : isI p1 0 2 with
          | false => rfl
          | true => exact absurd ((isI_3 (y := 0)).mp hh) hn
        rw [hf, if_pos (by decide +kernel)] at h2
        obtain ⟨b1, b2⟩ := h2
        subst w2
        exact ⟨by rw [a1, b1], hS, hT, hI⟩
      by_cases c : p1 < 0
      · rw [if_pos c] at h1
        rw [Int32.lt_iff_toInt_lt, z32] at c
        exact non (by omega) h1
      · rw [if_neg c] at h1
        rw [Int32.lt_iff_toInt_lt, z32] at c
        by_cases c3 : p1 < 3
        · rw [if_pos c3] at h1
          rw [Int32.lt_iff_toInt_lt, e3] at c3
          obtain ⟨κ, hκ⟩ : ∃ κ, κ = p1.toInt.toNat := ⟨_, rfl⟩
          have ek : p1.toInt = κ := by omega
          have k3 : κ < 3 := by omega
          obtain ⟨_, r1, wa, q1, q2⟩ := h1
          rw [q21 k3 hS ek] at q1
          obtain ⟨a1, a2, a3⟩ := F71_img k3 hS hT q1
          have Sa := a2.2.2.2
          obtain ⟨_, q2⟩ := q2 a1 Sa
          obtain ⟨q3, q4⟩ := q2 _ rfl
          have f1 : FM [] [22] wa w1 := by rw [q4]; exact FM_aB Sa (by decide)
          have S1 := f1.2.2.2
          have h2 := use_p S1 (U316_0 S1 h2) (fun _ _ z => F199 S1 z)
          rw [(isI_3 (y := 0)).mpr ⟨by omega, by omega⟩, if_neg (by decide +kernel)] at h2
          obtain ⟨_, h2⟩ := h2
          have h2 := h2 _ rfl
          have fb : FM [] [149] w1 (aB w1 149 p1 1) := FM_aB S1 (by decide)
          obtain ⟨b1, b2, b3⟩ := L316 k3 ek _ _ 0 0 fb.2.2.2 z32 (by decide) h2
          have nt : ∀ x, x = 22 ∨ x = 148 ∨ x = 149 → x ∉ tAs (87 + 20 * κ) := by
            intro x hx
            have c : κ = 0 ∨ κ = 1 ∨ κ = 2 := by omega
            rcases c with rfl | rfl | rfl <;> rcases hx with rfl | rfl | rfl <;> decide
          have ea : al wa = al w := al_FM a2 (nt 148 (by omega))
          have eb : al (aB w1 149 p1 1) = al w := by rw [al_FM fb (by decide), al_FM f1 (by decide), ea]
          rw [eb] at b3
          have f3 : FM [] [22, 149, 148] wa w2 := FM_trans (FM_mono f1 (by intro x hx; exact hx) (by decide)) (FM_trans (FM_mono fb (by intro x hx; exact hx) (by decide)) (FM_mono b2 (by intro x hx; exact hx) (by decide)))
          have g22 : ∀ j, (gA w2 22).getD j 0 = if j = κ then 1 else (gA w 22).getD j 0 := by
            intro j
            rw [FM_a b2 (by decide), FM_a fb (by decide), q4, aB_b Sa (by decide +kernel) (by decide +kernel) (by decide +kernel) ek k3, FM_a a2 (nt 22 (by omega))]
          have g149 : ∀ j, (gA w2 149).getD j 0 = if j = κ then 1 else (gA w 149).getD j 0 := by
            intro j
            rw [FM_a b2 (by decide), aB_b S1 (by decide +kernel) (by decide +kernel) (by decide +kernel) ek k3, FM_a f1 (by decide), FM_a a2 (nt 149 (by omega))]
          have hal1 : ∀ q, q < 1690 → al w2 q = al w q := fun q hq => by rw [b3, if_neg (by omega)]
          refine ⟨by rw [q3, b1], f3.2.2.2, ?_, fun j hj => ?_⟩
          · have q := TE_fm Sa (T := 1) (by decide +kernel) (by decide +kernel) (TE_fm hS (T := 1) (by decide +kernel) (by decide +kernel) hT a2 (by
              have c : κ = 0 ∨ κ = 1 ∨ κ = 2 := by omega
              rcases c with rfl | rfl | rfl <;> decide) (by
              have c : κ = 0 ∨ κ = 1 ∨ κ = 2 := by omega
              rcases c with rfl | rfl | rfl <;> decide)) f3 (by intro p hp z; cases z) (by decide)
            exact TE_cg q hal1
          · rw [g22, g149]
            by_cases e : j = κ
            · rw [if_pos e, if_pos e]
              refine ⟨rfl, fun _ => ?_⟩
              rw [e]
              have q := TE_fm Sa (okI k3).1 (okI k3).2 a3 f3 (by intro p hp z; cases z) (by
                have c : κ = 0 ∨ κ = 1 ∨ κ = 2 := by omega
                rcases c with rfl | rfl | rfl <;> decide)
              exact TE_cg q (fun q hq => by rw [b3, if_pos (by omega), show 1690 * (κ + 1) + q - 1690 * (κ + 1) = q by omega])
            · rw [if_neg e, if_neg e]
              obtain ⟨i1, i2⟩ := hI j hj
              refine ⟨i1, fun z => ?_⟩
              have q := TE_fm Sa (okI hj).1 (okI hj).2 (TE_fm hS (okI hj).1 (okI hj).2 (i2 z) a2 (by
                have c : (κ = 0 ∧ j = 1) ∨ (κ = 0 ∧ j = 2) ∨ (κ = 1 ∧ j = 0) ∨ (κ = 1 ∧ j = 2) ∨ (κ = 2 ∧ j = 0) ∨ (κ = 2 ∧ j = 1) := by omega
                rcases c with ⟨rfl, rfl⟩ | ⟨rfl, rfl⟩ | ⟨rfl, rfl⟩ | ⟨rfl, rfl⟩ | ⟨rfl, rfl⟩ | ⟨rfl, rfl⟩ <;> decide) (by
                have c : (κ = 0 ∧ j = 1) ∨ (κ = 0 ∧ j = 2) ∨ (κ = 1 ∧ j = 0) ∨ (κ = 1 ∧ j = 2) ∨ (κ = 2 ∧ j = 0) ∨ (κ = 2 ∧ j = 1) := by omega
                rcases c with ⟨rfl, rfl⟩ | ⟨rfl, rfl⟩ | ⟨rfl, rfl⟩ | ⟨rfl, rfl⟩ | ⟨rfl, rfl⟩ | ⟨rfl, rfl⟩ <;> decide)) f3 (by intro p hp z; cases z) (by
                have c : j = 0 ∨ j = 1 ∨ j = 2 := by omega
                rcases c with rfl | rfl | rfl <;> decide)
              exact TE_cg q (fun q hq => by rw [b3, if_neg (by omega)])
        · rw [if_neg c3] at h1
          rw [Int32.lt_iff_toInt_lt, e3] at c3
          exact non (by omega) h1
theorem RAGN (h : RL2 w) (h1 : PS X k 72 0 [.ref 0, .int p1] [] w r w1) (h2 : PS X k2 317 0 [.ref 147, .int p1, pm_dead] [] w1 r2 w2) : r2 = r ∧ RL2 w2 := by
  obtain ⟨hS, hT, hI⟩ := h
  have e3 : (3 : Int32).toInt = 3 := three32
  cases k with
  | zero => exact (PS_0 h1).elim
  | succ k =>
    cases k2 with
    | zero => exact (PS_0 h2).elim
    | succ k2 =>
      have h1 := U72_0 hS h1
      have non : ¬ (0 ≤ p1.toInt ∧ p1.toInt < 3) → r = some (.int 0) ∧ w1 = w → r2 = r ∧ RL2 w2 := by
        rintro hn ⟨a1, a2⟩
        subst w1
        have h2 := use_p hS (U317_0 hS h2) (fun _ _ z => F199 hS z)
        have hf : isI p1 0 2 = false := by
          cases hh : isI p1 0 2 with
          | false => rfl
          | true => exact absurd ((isI_3 (y := 0)).mp hh) hn
        rw [hf, if_pos (by decide +kernel)] at h2
        obtain ⟨b1, b2⟩ := h2
        subst w2
        exact ⟨by rw [a1, b1], hS, hT, hI⟩
      by_cases c : p1 < 0
      · rw [if_pos c] at h1
        rw [Int32.lt_iff_toInt_lt, z32] at c
        exact non (by omega) h1
      · rw [if_neg c] at h1
        rw [Int32.lt_iff_toInt_lt, z32] at c
        by_cases c3 : 3 ≤ p1
        · rw [if_pos c3] at h1
          rw [Int32.le_iff_toInt_le, e3] at c3
          exact non (by omega) h1
        · rw [if_neg c3] at h1
          rw [Int32.le_iff_toInt_le, e3] at c3
          obtain ⟨κ, hκ⟩ : ∃ κ, κ = p1.toInt.toNat := ⟨_, rfl⟩
          have ek : p1.toInt = κ := by omega
          have k3 : κ < 3 := by omega
          obtain ⟨i1, i2⟩ := hI κ k3
          obtain ⟨_, h1⟩ := h1
          rw [aG_n (m := κ) ek, i1] at h1
          by_cases cz : (gA w 149).getD κ 0 = 0
          · rw [if_pos cz] at h1
            obtain ⟨a1, a2⟩ := h1
            subst w1
            have h2 := use_p hS (U317_0 hS h2) (fun _ _ z => F199 hS z)
            rw [(isI_3 (y := 0)).mpr ⟨by omega, by omega⟩, if_neg (by decide +kernel)] at h2
            obtain ⟨_, h2⟩ := h2
            rw [aG_n (m := κ) ek, if_pos cz] at h2
            obtain ⟨b1, b2⟩ := h2
            subst w2
            exact ⟨by rw [a1, b1], hS, hT, hI⟩
          · rw [if_neg cz] at h1
            obtain ⟨_, r1, wa, q1, q2⟩ := h1
            rw [q21 k3 hS ek] at q1
            obtain ⟨a1, a2, a3⟩ := F71_agn k3 hS (i2 cz) q1
            have Sa := a2.2.2.2
            obtain ⟨q3, q4⟩ := q2 a1 Sa
            subst w1
            have ea : al wa = al w := al_FM a2 (by decide)
            have h2 := use_p Sa (U317_0 Sa h2) (fun _ _ z => F199 Sa z)
            rw [(isI_3 (y := 0)).mpr ⟨by omega, by omega⟩, if_neg (by decide +kernel)] at h2
            obtain ⟨_, h2⟩ := h2
            rw [aG_n (m := κ) ek, FM_a a2 (by decide), if_neg cz] at h2
            obtain ⟨b1, b2, b3⟩ := L317 k3 ek _ _ 0 0 Sa z32 (by decide) h2
            rw [ea] at b3
            refine ⟨by rw [q3, b1], b2.2.2.2, ?_, ?_⟩
            · have q := TE_fm Sa (T := 1) (by decide +kernel) (by decide +kernel) a3 b2 (by intro p hp z; cases z) (by decide)
              exact TE_cg q (fun q hq => by rw [b3, if_pos (by omega)])
            · exact IM_fm Sa (IM_fm hS hI a2 (three_k (by decide) (by decide) (by decide)) (three_k (by decide) (by decide) (by decide)) (by decide) (by decide) (fun q hq => by rw [ea])) b2 (by intro k hk p hp z; cases z) (three_k (by decide) (by decide) (by decide)) (by decide) (by decide) (fun q hq => by rw [b3, if_neg (by omega), ea])
end GTI
end
