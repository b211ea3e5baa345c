/-! ===== what is told, copied (printed by f71.py) ===== -/
section GR
variable {X : pm_X} {k : Nat} {w w' : pm_W} {r : Option Value}
def tF1 : List (Nat × Nat) := [(1, 2), (1, 3), (1, 5), (1, 6), (1, 7), (5, 0), (5, 1), (5, 2), (10, 0), (10, 1), (10, 2), (15, 0), (17, 0), (19, 0)]
def tA1 : List Nat := [4, 6, 7, 8, 9, 11, 12, 13, 14, 16, 18, 20]
def tF87 : List (Nat × Nat) := [(87, 2), (87, 3), (87, 5), (87, 6), (87, 7), (91, 0), (91, 1), (91, 2), (96, 0), (96, 1), (96, 2), (101, 0), (103, 0), (105, 0)]
def tA87 : List Nat := [90, 92, 93, 94, 95, 97, 98, 99, 100, 102, 104, 106]
def tF107 : List (Nat × Nat) := [(107, 2), (107, 3), (107, 5), (107, 6), (107, 7), (111, 0), (111, 1), (111, 2), (116, 0), (116, 1), (116, 2), (121, 0), (123, 0), (125, 0)]
def tA107 : List Nat := [110, 112, 113, 114, 115, 117, 118, 119, 120, 122, 124, 126]
def tF127 : List (Nat × Nat) := [(127, 2), (127, 3), (127, 5), (127, 6), (127, 7), (131, 0), (131, 1), (131, 2), (136, 0), (136, 1), (136, 2), (141, 0), (143, 0), (145, 0)]
def tA127 : List Nat := [130, 132, 133, 134, 135, 137, 138, 139, 140, 142, 144, 146]
theorem L71v_87_1 {w0 : pm_W} {cnt : Int32} {cN : Nat} (hS0 : SK w0) (hc : cnt.toInt = cN) (hc2 : cN ≤ 2) : ∀ (k : Nat) (w : pm_W) (t : Nat) (i2 : Int32), FM tF87 tA87 w0 w → gI w 87 2 = cnt → i2.toInt = t → t ≤ cN → (∀ u, u < t → ∀ k, vcl w (91 + 5 * u) k = vcl w0 (5 + 5 * u) k) → PS X k 71 18 [.ref 87, .ref 1, .int i2] [] w r w' → ∃ (k' : Nat) (w1 : pm_W), FM tF87 tA87 w0 w1 ∧ gI w1 87 2 = cnt ∧ gI w1 87 3 = gI w 87 3 ∧ (∀ u, u < cN → ∀ k, vcl w1 (91 + 5 * u) k = vcl w0 (5 + 5 * u) k) ∧ PS X k' 71 49 [.ref 87, .ref 1, .int 0] [] w1 r w' := by
  intro k
  induction k with
  | zero => intro w t i2 f0 gc h2 ht hv h; exact (PS_0 h).elim
  | succ k ih =>
    intro w t i2 f0 gc h2 ht hv h
    have hS := f0.2.2.2
    have h := U71_18 hS h
    rw [gc] at h
    by_cases c : cnt ≤ i2
    · rw [if_pos c] at h
      rw [Int32.le_iff_toInt_le, hc, h2] at c
      exact ⟨k, w, f0, gc, rfl, fun u hu => hv u (by omega), h⟩
    · rw [if_neg c] at h
      rw [Int32.le_iff_toInt_le, hc, h2] at c
      obtain ⟨_, _, r1, w2, q1, q2⟩ := h
      have e1 : gR w 87 0 = 88 := sk_fix hS (by decide +kernel) (by decide)
      have e2 : gR w 1 0 = 2 := sk_fix hS (by decide +kernel) (by decide)
      have k1 : gQ w 88 = [some 91, some 96] := by rw [SK_Q hS]; decide +kernel
      have k2 : gQ w 2 = [some 5, some 10] := by rw [SK_Q hS]; decide +kernel
      unfold qG at q1
      rw [e1, e2, k1, k2, i_nat h2] at q1
      have ct : t = 0 ∨ t = 1 := by omega
      have done : ∀ (fm : FM tF87 tA87 w w2), r1 = none → gI w2 87 2 = gI w 87 2 → gI w2 87 3 = gI w 87 3 → (∀ u, u < t + 1 → ∀ k, vcl w2 (91 + 5 * u) k = vcl w0 (5 + 5 * u) k) → ∃ (k' : Nat) (w1 : pm_W), FM tF87 tA87 w0 w1 ∧ gI w1 87 2 = cnt ∧ gI w1 87 3 = gI w 87 3 ∧ (∀ u, u < cN → ∀ k, vcl w1 (91 + 5 * u) k = vcl w0 (5 + 5 * u) k) ∧ PS X k' 71 49 [.ref 87, .ref 1, .int 0] [] w1 r w' := by
        intro fm er z2 z3 z4
        obtain ⟨k', w1, y1, y2, y3, y4⟩ := ih w2 (t + 1) (i2 + 1) (FM_trans f0 fm) (z2.trans gc) (by rw [zi_inc (n := 2) (by omega) (by omega), h2]; rfl) (by omega) z4 (q2 er fm.2.2.2)
        exact ⟨k', w1, y1, y2, y3.trans z3, y4⟩
      rcases ct with rfl | rfl
      · obtain ⟨a1, a2, a3⟩ := F56 hS (a := 91) (s := 5) (by decide +kernel) (by decide +kernel) (by decide) q1
        refine done (FM_mono a2 (by decide) (by decide)) a1 (FM_i a2 (by decide)) (FM_i a2 (by decide)) (fun u hu k => ?_)
        have eu : u = 0 := by omega
        subst eu
        rw [show 91 + 5 * 0 = 91 from rfl, show 5 + 5 * 0 = 5 from rfl, a3 k]
        exact vcl_FMv hS0 f0 (by decide +kernel) (by decide) (by decide) (by decide) (by decide) (by decide) (by decide) (by decide) k
      · obtain ⟨a1, a2, a3⟩ := F56 hS (a := 96) (s := 10) (by decide +kernel) (by decide +kernel) (by decide) q1
        refine done (FM_mono a2 (by decide) (by decide)) a1 (FM_i a2 (by decide)) (FM_i a2 (by decide)) (fun u hu k => ?_)
        have cu : u = 0 ∨ u = 1 := by omega
        rcases cu with rfl | rfl
        · rw [← hv 0 (by omega) k]
          exact vcl_FMv hS a2 (by decide +kernel) (by decide) (by decide) (by decide) (by decide) (by decide) (by decide) (by decide) k
        · rw [show 91 + 5 * 1 = 96 from rfl, show 5 + 5 * 1 = 10 from rfl, a3 k]
          exact vcl_FMv hS0 f0 (by decide +kernel) (by decide) (by decide) (by decide) (by decide) (by decide) (by decide) (by decide) k
theorem L71r_87_1 {w0 : pm_W} {cnt vc : Int32} {cN vN : Nat} (hS0 : SK w0) (hc : cnt.toInt = cN) (hc2 : cN ≤ 3) (hv2 : vN ≤ 2) : ∀ (k : Nat) (w : pm_W) (t : Nat) (i2 : Int32), FM tF87 tA87 w0 w → gI w 87 3 = cnt → gI w 87 2 = vc → i2.toInt = t → t ≤ cN → (∀ u, u < vN → ∀ k, vcl w (91 + 5 * u) k = vcl w0 (5 + 5 * u) k) → (∀ u, u < t → gI w (101 + 2 * u) 0 = gI w0 (15 + 2 * u) 0 ∧ ∀ q, q < 270 → (gA w (102 + 2 * u)).getD q 0 = (gA w0 (16 + 2 * u)).getD q 0) → PS X k 71 49 [.ref 87, .ref 1, .int i2] [] w r w' → ∃ (k' : Nat) (w1 : pm_W) (i2' : Int32), FM tF87 tA87 w0 w1 ∧ gI w1 87 2 = vc ∧ gI w1 87 3 = cnt ∧ (∀ u, u < vN → ∀ k, vcl w1 (91 + 5 * u) k = vcl w0 (5 + 5 * u) k) ∧ (∀ u, u < cN → gI w1 (101 + 2 * u) 0 = gI w0 (15 + 2 * u) 0 ∧ ∀ q, q < 270 → (gA w1 (102 + 2 * u)).getD q 0 = (gA w0 (16 + 2 * u)).getD q 0) ∧ (∀ w2 : pm_W, w2 = sI w1 87 5 (gI w1 1 5) → (cpI w2 (gR w2 1 4) (gR w2 87 4) 0 0 (gI w2 87 5) ∧ (∀ w3 : pm_W, w3 = cpS w2 (gR w2 1 4) (gR w2 87 4) 0 0 (gI w2 87 5) → (∀ w4 : pm_W, w4 = sI w3 87 6 (gI w3 1 6) → (∀ w5 : pm_W, w5 = sI w4 87 7 (gI w4 1 7) → (r = none ∧ w' = w5)))))) := by
  intro k
  induction k with
  | zero => intro w t i2 f0 gc gv h2 ht hvv hv h; exact (PS_0 h).elim
  | succ k ih =>
    intro w t i2 f0 gc gv h2 ht hvv hv h
    have hS := f0.2.2.2
    have h := U71_49 hS h
    rw [gc] at h
    by_cases c : cnt ≤ i2
    · rw [if_pos c] at h
      rw [Int32.le_iff_toInt_le, hc, h2] at c
      exact ⟨k, w, i2, f0, gv, gc, hvv, fun u hu => hv u (by omega), h⟩
    · rw [if_neg c] at h
      rw [Int32.le_iff_toInt_le, hc, h2] at c
      obtain ⟨_, _, r1, w2, q1, q2⟩ := h
      have e1 : gR w 87 1 = 89 := sk_fix hS (by decide +kernel) (by decide)
      have e2 : gR w 1 1 = 3 := sk_fix hS (by decide +kernel) (by decide)
      have k1 : gQ w 89 = [some 101, some 103, some 105] := by rw [SK_Q hS]; decide +kernel
      have k2 : gQ w 3 = [some 15, some 17, some 19] := by rw [SK_Q hS]; decide +kernel
      unfold qG at q1
      rw [e1, e2, k1, k2, i_nat h2] at q1
      have ct : t = 0 ∨ t = 1 ∨ t = 2 := by omega
      have vcl_x : ∀ {fs : List (Nat × Nat)} {as : List Nat} (fm : FM fs as w w2), (∀ p, p ∈ [(91, 0), (91, 1), (91, 2), (96, 0), (96, 1), (96, 2)] → p ∉ fs) → (∀ x, x ∈ [91 + 1, 91 + 2, 91 + 3, 91 + 4, 96 + 1, 96 + 2, 96 + 3, 96 + 4] → x ∉ as) → ∀ u, u < vN → ∀ k, vcl w2 (91 + 5 * u) k = vcl w0 (5 + 5 * u) k := by
        intro fs as fm h1 h2 u hu k
        rw [← hvv u hu k]
        have cu : u = 0 ∨ u = 1 := by omega
        rcases cu with rfl | rfl
        · exact vcl_FMv hS fm (by decide +kernel) (h1 _ (by decide)) (h1 _ (by decide)) (h1 _ (by decide)) (h2 _ (by decide)) (h2 _ (by decide)) (h2 _ (by decide)) (h2 _ (by decide)) k
        · exact vcl_FMv hS fm (by decide +kernel) (h1 _ (by decide)) (h1 _ (by decide)) (h1 _ (by decide)) (h2 _ (by decide)) (h2 _ (by decide)) (h2 _ (by decide)) (h2 _ (by decide)) k
      have done : ∀ (fm : FM tF87 tA87 w w2), r1 = none → gI w2 87 3 = gI w 87 3 → (∀ x : Nat, x = 0 → gI w2 87 2 = gI w 87 2 ∧ gA w2 90 = gA w 90 ∧ gI w2 87 5 = gI w 87 5 ∧ gI w2 87 6 = gI w 87 6 ∧ gI w2 87 7 = gI w 87 7) → (∀ u, u < vN → ∀ k, vcl w2 (91 + 5 * u) k = vcl w0 (5 + 5 * u) k) → (∀ u, u < t + 1 → gI w2 (101 + 2 * u) 0 = gI w0 (15 + 2 * u) 0 ∧ ∀ q, q < 270 → (gA w2 (102 + 2 * u)).getD q 0 = (gA w0 (16 + 2 * u)).getD q 0) → _ := fun fm er z1 z2 z3 z4 => ih w2 (t + 1) (i2 + 1) (FM_trans f0 fm) (z1.trans gc) ((z2 0 rfl).1.trans gv) (by rw [zi_inc (n := 3) (by omega) (by omega), h2]; rfl) (by omega) z3 z4 (q2 er fm.2.2.2)
      rcases ct with rfl | rfl | rfl
      · obtain ⟨a1, a2, a3, a4⟩ := F57 hS (a := 101) (s := 15) (by decide +kernel) (by decide +kernel) (by decide) q1
        refine done (FM_mono a2 (by decide) (by decide)) a1 (FM_i a2 (by decide)) (fun x hx => ⟨FM_i a2 (by decide), FM_a a2 (by decide), FM_i a2 (by decide), FM_i a2 (by decide), FM_i a2 (by decide)⟩) (fun u hu k => vcl_x a2 (by decide) (by decide) u hu k) (fun u hu => ?_)
        have cu : u = 0 := by omega
        subst cu
        · refine ⟨?_, fun q hq => ?_⟩
          · show gI w2 101 0 = gI w0 15 0
            rw [a3]; exact FM_i f0 (by decide)
          · show (gA w2 102).getD q 0 = (gA w0 16).getD q 0
            rw [a4 q hq, FM_a f0 (by decide)]
      · obtain ⟨a1, a2, a3, a4⟩ := F57 hS (a := 103) (s := 17) (by decide +kernel) (by decide +kernel) (by decide) q1
        refine done (FM_mono a2 (by decide) (by decide)) a1 (FM_i a2 (by decide)) (fun x hx => ⟨FM_i a2 (by decide), FM_a a2 (by decide), FM_i a2 (by decide), FM_i a2 (by decide), FM_i a2 (by decide)⟩) (fun u hu k => vcl_x a2 (by decide) (by decide) u hu k) (fun u hu => ?_)
        have cu : u = 0 ∨ u = 1 := by omega
        rcases cu with rfl | rfl
        · obtain ⟨y1, y2⟩ := hv 0 (by omega)
          refine ⟨?_, fun q hq => ?_⟩
          · rw [← y1]; exact FM_i a2 (by decide)
          · rw [← y2 q hq, FM_a a2 (by decide)]
        · refine ⟨?_, fun q hq => ?_⟩
          · show gI w2 103 0 = gI w0 17 0
            rw [a3]; exact FM_i f0 (by decide)
          · show (gA w2 104).getD q 0 = (gA w0 18).getD q 0
            rw [a4 q hq, FM_a f0 (by decide)]
      · obtain ⟨a1, a2, a3, a4⟩ := F57 hS (a := 105) (s := 19) (by decide +kernel) (by decide +kernel) (by decide) q1
        refine done (FM_mono a2 (by decide) (by decide)) a1 (FM_i a2 (by decide)) (fun x hx => ⟨FM_i a2 (by decide), FM_a a2 (by decide), FM_i a2 (by decide), FM_i a2 (by decide), FM_i a2 (by decide)⟩) (fun u hu k => vcl_x a2 (by decide) (by decide) u hu k) (fun u hu => ?_)
        have cu : u = 0 ∨ u = 1 ∨ u = 2 := by omega
        rcases cu with rfl | rfl | rfl
        · obtain ⟨y1, y2⟩ := hv 0 (by omega)
          refine ⟨?_, fun q hq => ?_⟩
          · rw [← y1]; exact FM_i a2 (by decide)
          · rw [← y2 q hq, FM_a a2 (by decide)]
        · obtain ⟨y1, y2⟩ := hv 1 (by omega)
          refine ⟨?_, fun q hq => ?_⟩
          · rw [← y1]; exact FM_i a2 (by decide)
          · rw [← y2 q hq, FM_a a2 (by decide)]
        · refine ⟨?_, fun q hq => ?_⟩
          · show gI w2 105 0 = gI w0 19 0
            rw [a3]; exact FM_i f0 (by decide)
          · show (gA w2 106).getD q 0 = (gA w0 20).getD q 0
            rw [a4 q hq, FM_a f0 (by decide)]
theorem F71_87_1 {L : Nat} (hS : SK w) (h0 : 0 ≤ (gI w 1 2).toInt) (h2 : (gI w 1 2).toInt ≤ 2) (h1 : 0 ≤ (gI w 1 3).toInt) (h3 : (gI w 1 3).toInt ≤ 3) (hl : (gI w 1 5).toInt = L) (h6 : L ≤ 600) (h : PS X k 71 0 [.ref 87, .ref 1, pm_dead] [] w r w') : r = none ∧ FM tF87 tA87 w w' ∧ gI w' 87 2 = gI w 1 2 ∧ gI w' 87 3 = gI w 1 3 ∧ gI w' 87 5 = gI w 1 5 ∧ gI w' 87 6 = gI w 1 6 ∧ gI w' 87 7 = gI w 1 7 ∧ (∀ j, j < L → (gA w' 90).getD j 0 = (gA w 4).getD j 0) ∧ (∀ u, u < (gI w 1 2).toInt.toNat → ∀ k, vcl w' (91 + 5 * u) k = vcl w (5 + 5 * u) k) ∧ (∀ u, u < (gI w 1 3).toInt.toNat → gI w' (101 + 2 * u) 0 = gI w (15 + 2 * u) 0 ∧ ∀ q, q < 270 → (gA w' (102 + 2 * u)).getD q 0 = (gA w (16 + 2 * u)).getD q 0) := by
  cases k with
  | zero => exact (PS_0 h).elim
  | succ k =>
    have h := U71_0 hS h _ rfl _ rfl
    have fa : FM tF87 tA87 w (sI w 87 2 (gI w 1 2)) := FM_sI hS (by decide)
    obtain ⟨w2, e2⟩ : ∃ w2, w2 = sI (sI w 87 2 (gI w 1 2)) 87 3 (gI (sI w 87 2 (gI w 1 2)) 1 3) := ⟨_, rfl⟩
    rw [← e2] at h
    have fb : FM tF87 tA87 w w2 := FM_trans fa (by rw [e2]; exact FM_sI fa.2.2.2 (by decide))
    have g2 : gI w2 87 2 = gI w 1 2 := by rw [e2, gI_sI_ne (by decide), gI_sI (SK_isF hS (by decide +kernel))]
    have g3 : gI w2 87 3 = gI w 1 3 := by rw [e2, gI_sI (SK_isF fa.2.2.2 (by decide +kernel)), gI_sI_ne (by decide)]
    obtain ⟨k3, w3, f3, a1, a2, a3, h⟩ := L71v_87_1 (cN := (gI w 1 2).toInt.toNat) hS (by omega) (by omega) _ w2 0 0 fb g2 z32 (Nat.zero_le _) (fun u hu => absurd hu (Nat.not_lt_zero u)) h
    obtain ⟨k4, w4, i4, f4, b1, b2, b3, b4, h⟩ := L71r_87_1 (cN := (gI w 1 3).toInt.toNat) (vN := (gI w 1 2).toInt.toNat) hS (by omega) (by omega) (by omega) _ w3 0 0 f3 (a2.trans g3) a1 z32 (Nat.zero_le _) a3 (fun u hu => absurd hu (Nat.not_lt_zero u)) h
    have S4 := f4.2.2.2
    obtain ⟨hc, h⟩ := h _ rfl
    have h := h _ rfl _ rfl _ rfl
    obtain ⟨w5, e5⟩ : ∃ w5, w5 = sI w4 87 5 (gI w4 1 5) := ⟨_, rfl⟩
    rw [← e5] at h hc
    have f5 : FM [(87, 5)] [] w4 w5 := by rw [e5]; exact FM_sI S4 (by decide)
    have S5 := f5.2.2.2
    have g5 : gI w5 87 5 = gI w 1 5 := by rw [e5, gI_sI (SK_isF S4 (by decide +kernel))]; exact FM_i f4 (by decide)
    have r1 : gR w5 1 4 = 4 := sk_fix S5 (by decide +kernel) (by decide)
    have r2 : gR w5 87 4 = 90 := sk_fix S5 (by decide +kernel) (by decide)
    rw [r1, r2, g5] at h hc
    obtain ⟨w6, e6⟩ : ∃ w6, w6 = cpS w5 4 90 0 0 (gI w 1 5) := ⟨_, rfl⟩
    rw [← e6] at h
    have f6 : FM [] [90] w5 w6 := by rw [e6]; exact FM_cpS hc S5 (by decide)
    have S6 := f6.2.2.2
    have t6 : ∀ j, j < L → (gA w6 90).getD j 0 = (gA w 4).getD j 0 := by
      intro j hj
      rw [e6, cpS_A hc (SK_isA S5 (by decide +kernel)), hl, z32, cpy_getF (by rw [SK_len S5 (a := 4) (n := 600) (by decide +kernel) (by decide)]; show 0 + L ≤ 600; omega) (by rw [SK_len S5 (a := 90) (n := 600) (by decide +kernel) (by decide)]; show 0 + L ≤ 600; omega), if_pos (by show 0 ≤ j ∧ j < 0 + L; omega)]
      show (gA w5 4).getD (0 + (j - 0)) 0 = _
      rw [show 0 + (j - 0) = j by omega, FM_a f5 (by intro z; cases z), FM_a f4 (by decide)]
    obtain ⟨w7, e7⟩ : ∃ w7, w7 = sI w6 87 6 (gI w6 1 6) := ⟨_, rfl⟩
    rw [← e7] at h
    have f7 : FM [(87, 6)] [] w6 w7 := by rw [e7]; exact FM_sI S6 (by decide)
    have S7 := f7.2.2.2
    have f8 : FM [(87, 7)] [] w7 w' := by rw [h.2]; exact FM_sI S7 (by decide)
    have s6 : gI w6 1 6 = gI w 1 6 := by rw [FM_i f6 (by intro z; cases z), FM_i f5 (by decide), FM_i f4 (by decide)]
    have s7 : gI w7 1 7 = gI w 1 7 := by rw [FM_i f7 (by decide), FM_i f6 (by intro z; cases z), FM_i f5 (by decide), FM_i f4 (by decide)]
    have fx : FM [(87, 5), (87, 6), (87, 7)] [90] w4 w' := FM_trans (FM_mono f5 (by decide) (by decide)) (FM_trans (FM_mono f6 (by intro x hx; cases hx) (by decide)) (FM_trans (FM_mono f7 (by decide) (by decide)) (FM_mono f8 (by decide) (by decide))))
    refine ⟨h.1, FM_trans f4 (FM_mono fx (by decide) (by decide)), (FM_i fx (by decide)).trans b1, (FM_i fx (by decide)).trans b2, ?_, ?_, ?_, fun j hj => ?_, fun u hu k => ?_, fun u hu => ?_⟩
    · rw [FM_i f8 (by decide), FM_i f7 (by decide), FM_i f6 (by intro z; cases z)]; exact g5
    · rw [FM_i f8 (by decide), e7, gI_sI (SK_isF S6 (by decide +kernel))]; exact s6
    · rw [h.2, gI_sI (SK_isF S7 (by decide +kernel))]; exact s7
    · rw [FM_a f8 (by intro z; cases z), FM_a f7 (by intro z; cases z)]; exact t6 j hj
    · rw [← b3 u hu k]
      have cu : u = 0 ∨ u = 1 := by omega
      rcases cu with rfl | rfl
      · exact vcl_FMv S4 fx (by decide +kernel) (by decide) (by decide) (by decide) (by decide) (by decide) (by decide) (by decide) k
      · exact vcl_FMv S4 fx (by decide +kernel) (by decide) (by decide) (by decide) (by decide) (by decide) (by decide) (by decide) k
    · obtain ⟨y1, y2⟩ := b4 u hu
      have cu : u = 0 ∨ u = 1 ∨ u = 2 := by omega
      refine ⟨?_, fun q hq => ?_⟩
      · rw [← y1]
        rcases cu with rfl | rfl | rfl <;> exact FM_i fx (by decide)
      · rw [← y2 q hq]
        rcases cu with rfl | rfl | rfl <;> rw [FM_a fx (by decide)]
/-- a told object copied is told alike -/
theorem TE71_87_1 {a : Nat → Int32} (hS : SK w) (hTE : TE w 1 a) (h : PS X k 71 0 [.ref 87, .ref 1, pm_dead] [] w r w') : r = none ∧ FM tF87 tA87 w w' ∧ TE w' 87 a := by
  obtain ⟨⟨r1, r2, r3, r4, r5, r6, r7⟩, t1, t2, t3, t4, t5, t6, t7, t8⟩ := hTE
  obtain ⟨z1, z2, z3, z4, z5, z6, z7, z8, z9, z10⟩ := F71_87_1 (L := (a 2).toInt.toNat) hS (by rw [t1]; exact r1) (by rw [t1]; exact r2) (by rw [t2]; exact r3) (by rw [t2]; exact r4) (by rw [t3]; omega) (by omega) h
  rw [t1] at z9
  rw [t2] at z10
  refine ⟨z1, z2, ⟨r1, r2, r3, r4, r5, r6, r7⟩, z3.trans t1, z4.trans t2, z5.trans t3, z6.trans t4, z7.trans t5, fun j hj => ?_, fun u hu k hk => ?_, fun u hu => ?_⟩
  · show BY ((gA w' 90).getD j 0) _
    rw [z8 j hj]
    exact t6 j hj
  · exact (z9 u hu k).trans (t7 u hu k hk)
  · obtain ⟨y1, y2⟩ := z10 u hu
    obtain ⟨x1, x2⟩ := t8 u hu
    have ra := r7 u hu
    exact ⟨y1.trans x1, fun q hq => (y2 q (by omega)).trans (x2 q hq)⟩
theorem L71v_107_1 {w0 : pm_W} {cnt : Int32} {cN : Nat} (hS0 : SK w0) (hc : cnt.toInt = cN) (hc2 : cN ≤ 2) : ∀ (k : Nat) (w : pm_W) (t : Nat) (i2 : Int32), FM tF107 tA107 w0 w → gI w 107 2 = cnt → i2.toInt = t → t ≤ cN → (∀ u, u < t → ∀ k, vcl w (111 + 5 * u) k = vcl w0 (5 + 5 * u) k) → PS X k 71 18 [.ref 107, .ref 1, .int i2] [] w r w' → ∃ (k' : Nat) (w1 : pm_W), FM tF107 tA107 w0 w1 ∧ gI w1 107 2 = cnt ∧ gI w1 107 3 = gI w 107 3 ∧ (∀ u, u < cN → ∀ k, vcl w1 (111 + 5 * u) k = vcl w0 (5 + 5 * u) k) ∧ PS X k' 71 49 [.ref 107, .ref 1, .int 0] [] w1 r w' := by
  intro k
  induction k with
  | zero => intro w t i2 f0 gc h2 ht hv h; exact (PS_0 h).elim
  | succ k ih =>
    intro w t i2 f0 gc h2 ht hv h
    have hS := f0.2.2.2
    have h := U71_18 hS h
    rw [gc] at h
    by_cases c : cnt ≤ i2
    · rw [if_pos c] at h
      rw [Int32.le_iff_toInt_le, hc, h2] at c
      exact ⟨k, w, f0, gc, rfl, fun u hu => hv u (by omega), h⟩
    · rw [if_neg c] at h
      rw [Int32.le_iff_toInt_le, hc, h2] at c
      obtain ⟨_, _, r1, w2, q1, q2⟩ := h
      have e1 : gR w 107 0 = 108 := sk_fix hS (by decide +kernel) (by decide)
      have e2 : gR w 1 0 = 2 := sk_fix hS (by decide +kernel) (by decide)
      have k1 : gQ w 108 = [some 111, some 116] := by rw [SK_Q hS]; decide +kernel
      have k2 : gQ w 2 = [some 5, some 10] := by rw [SK_Q hS]; decide +kernel
      unfold qG at q1
      rw [e1, e2, k1, k2, i_nat h2] at q1
      have ct : t = 0 ∨ t = 1 := by omega
      have done : ∀ (fm : FM tF107 tA107 w w2), r1 = none → gI w2 107 2 = gI w 107 2 → gI w2 107 3 = gI w 107 3 → (∀ u, u < t + 1 → ∀ k, vcl w2 (111 + 5 * u) k = vcl w0 (5 + 5 * u) k) → ∃ (k' : Nat) (w1 : pm_W), FM tF107 tA107 w0 w1 ∧ gI w1 107 2 = cnt ∧ gI w1 107 3 = gI w 107 3 ∧ (∀ u, u < cN → ∀ k, vcl w1 (111 + 5 * u) k = vcl w0 (5 + 5 * u) k) ∧ PS X k' 71 49 [.ref 107, .ref 1, .int 0] [] w1 r w' := by
        intro fm er z2 z3 z4
        obtain ⟨k', w1, y1, y2, y3, y4⟩ := ih w2 (t + 1) (i2 + 1) (FM_trans f0 fm) (z2.trans gc) (by rw [zi_inc (n := 2) (by omega) (by omega), h2]; rfl) (by omega) z4 (q2 er fm.2.2.2)
        exact ⟨k', w1, y1, y2, y3.trans z3, y4⟩
      rcases ct with rfl | rfl
      · obtain ⟨a1, a2, a3⟩ := F56 hS (a := 111) (s := 5) (by decide +kernel) (by decide +kernel) (by decide) q1
        refine done (FM_mono a2 (by decide) (by decide)) a1 (FM_i a2 (by decide)) (FM_i a2 (by decide)) (fun u hu k => ?_)
        have eu : u = 0 := by omega
        subst eu
        rw [show 111 + 5 * 0 = 111 from rfl, show 5 + 5 * 0 = 5 from rfl, a3 k]
        exact vcl_FMv hS0 f0 (by decide +kernel) (by decide) (by decide) (by decide) (by decide) (by decide) (by decide) (by decide) k
      · obtain ⟨a1, a2, a3⟩ := F56 hS (a := 116) (s := 10) (by decide +kernel) (by decide +kernel) (by decide) q1
        refine done (FM_mono a2 (by decide) (by decide)) a1 (FM_i a2 (by decide)) (FM_i a2 (by decide)) (fun u hu k => ?_)
        have cu : u = 0 ∨ u = 1 := by omega
        rcases cu with rfl | rfl
        · rw [← hv 0 (by omega) k]
          exact vcl_FMv hS a2 (by decide +kernel) (by decide) (by decide) (by decide) (by decide) (by decide) (by decide) (by decide) k
        · rw [show 111 + 5 * 1 = 116 from rfl, show 5 + 5 * 1 = 10 from rfl, a3 k]
          exact vcl_FMv hS0 f0 (by decide +kernel) (by decide) (by decide) (by decide) (by decide) (by decide) (by decide) (by decide) k
theorem L71r_107_1 {w0 : pm_W} {cnt vc : Int32} {cN vN : Nat} (hS0 : SK w0) (hc : cnt.toInt = cN) (hc2 : cN ≤ 3) (hv2 : vN ≤ 2) : ∀ (k : Nat) (w : pm_W) (t : Nat) (i2 : Int32), FM tF107 tA107 w0 w → gI w 107 3 = cnt → gI w 107 2 = vc → i2.toInt = t → t ≤ cN → (∀ u, u < vN → ∀ k, vcl w (111 + 5 * u) k = vcl w0 (5 + 5 * u) k) → (∀ u, u < t → gI w (121 + 2 * u) 0 = gI w0 (15 + 2 * u) 0 ∧ ∀ q, q < 270 → (gA w (122 + 2 * u)).getD q 0 = (gA w0 (16 + 2 * u)).getD q 0) → PS X k 71 49 [.ref 107, .ref 1, .int i2] [] w r w' → ∃ (k' : Nat) (w1 : pm_W) (i2' : Int32), FM tF107 tA107 w0 w1 ∧ gI w1 107 2 = vc ∧ gI w1 107 3 = cnt ∧ (∀ u, u < vN → ∀ k, vcl w1 (111 + 5 * u) k = vcl w0 (5 + 5 * u) k) ∧ (∀ u, u < cN → gI w1 (121 + 2 * u) 0 = gI w0 (15 + 2 * u) 0 ∧ ∀ q, q < 270 → (gA w1 (122 + 2 * u)).getD q 0 = (gA w0 (16 + 2 * u)).getD q 0) ∧ (∀ w2 : pm_W, w2 = sI w1 107 5 (gI w1 1 5) → (cpI w2 (gR w2 1 4) (gR w2 107 4) 0 0 (gI w2 107 5) ∧ (∀ w3 : pm_W, w3 = cpS w2 (gR w2 1 4) (gR w2 107 4) 0 0 (gI w2 107 5) → (∀ w4 : pm_W, w4 = sI w3 107 6 (gI w3 1 6) → (∀ w5 : pm_W, w5 = sI w4 107 7 (gI w4 1 7) → (r = none ∧ w' = w5)))))) := by
  intro k
  induction k with
  | zero => intro w t i2 f0 gc gv h2 ht hvv hv h; exact (PS_0 h).elim
  | succ k ih =>
    intro w t i2 f0 gc gv h2 ht hvv hv h
    have hS := f0.2.2.2
    have h := U71_49 hS h
    rw [gc] at h
    by_cases c : cnt ≤ i2
    · rw [if_pos c] at h
      rw [Int32.le_iff_toInt_le, hc, h2] at c
      exact ⟨k, w, i2, f0, gv, gc, hvv, fun u hu => hv u (by omega), h⟩
    · rw [if_neg c] at h
      rw [Int32.le_iff_toInt_le, hc, h2] at c
      obtain ⟨_, _, r1, w2, q1, q2⟩ := h
      have e1 : gR w 107 1 = 109 := sk_fix hS (by decide +kernel) (by decide)
      have e2 : gR w 1 1 = 3 := sk_fix hS (by decide +kernel) (by decide)
      have k1 : gQ w 109 = [some 121, some 123, some 125] := by rw [SK_Q hS]; decide +kernel
      have k2 : gQ w 3 = [some 15, some 17, some 19] := by rw [SK_Q hS]; decide +kernel
      unfold qG at q1
      rw [e1, e2, k1, k2, i_nat h2] at q1
      have ct : t = 0 ∨ t = 1 ∨ t = 2 := by omega
      have vcl_x : ∀ {fs : List (Nat × Nat)} {as : List Nat} (fm : FM fs as w w2), (∀ p, p ∈ [(111, 0), (111, 1), (111, 2), (116, 0), (116, 1), (116, 2)] → p ∉ fs) → (∀ x, x ∈ [111 + 1, 111 + 2, 111 + 3, 111 + 4, 116 + 1, 116 + 2, 116 + 3, 116 + 4] → x ∉ as) → ∀ u, u < vN → ∀ k, vcl w2 (111 + 5 * u) k = vcl w0 (5 + 5 * u) k := by
        intro fs as fm h1 h2 u hu k
        rw [← hvv u hu k]
        have cu : u = 0 ∨ u = 1 := by omega
        rcases cu with rfl | rfl
        · exact vcl_FMv hS fm (by decide +kernel) (h1 _ (by decide)) (h1 _ (by decide)) (h1 _ (by decide)) (h2 _ (by decide)) (h2 _ (by decide)) (h2 _ (by decide)) (h2 _ (by decide)) k
        · exact vcl_FMv hS fm (by decide +kernel) (h1 _ (by decide)) (h1 _ (by decide)) (h1 _ (by decide)) (h2 _ (by decide)) (h2 _ (by decide)) (h2 _ (by decide)) (h2 _ (by decide)) k
      have done : ∀ (fm : FM tF107 tA107 w w2), r1 = none → gI w2 107 3 = gI w 107 3 → (∀ x : Nat, x = 0 → gI w2 107 2 = gI w 107 2 ∧ gA w2 110 = gA w 110 ∧ gI w2 107 5 = gI w 107 5 ∧ gI w2 107 6 = gI w 107 6 ∧ gI w2 107 7 = gI w 107 7) → (∀ u, u < vN → ∀ k, vcl w2 (111 + 5 * u) k = vcl w0 (5 + 5 * u) k) → (∀ u, u < t + 1 → gI w2 (121 + 2 * u) 0 = gI w0 (15 + 2 * u) 0 ∧ ∀ q, q < 270 → (gA w2 (122 + 2 * u)).getD q 0 = (gA w0 (16 + 2 * u)).getD q 0) → _ := fun fm er z1 z2 z3 z4 => ih w2 (t + 1) (i2 + 1) (FM_trans f0 fm) (z1.trans gc) ((z2 0 rfl).1.trans gv) (by rw [zi_inc (n := 3) (by omega) (by omega), h2]; rfl) (by omega) z3 z4 (q2 er fm.2.2.2)
      rcases ct with rfl | rfl | rfl
      · obtain ⟨a1, a2, a3, a4⟩ := F57 hS (a := 121) (s := 15) (by decide +kernel) (by decide +kernel) (by decide) q1
        refine done (FM_mono a2 (by decide) (by decide)) a1 (FM_i a2 (by decide)) (fun x hx => ⟨FM_i a2 (by decide), FM_a a2 (by decide), FM_i a2 (by decide), FM_i a2 (by decide), FM_i a2 (by decide)⟩) (fun u hu k => vcl_x a2 (by decide) (by decide) u hu k) (fun u hu => ?_)
        have cu : u = 0 := by omega
        subst cu
        · refine ⟨?_, fun q hq => ?_⟩
          · show gI w2 121 0 = gI w0 15 0
            rw [a3]; exact FM_i f0 (by decide)
          · show (gA w2 122).getD q 0 = (gA w0 16).getD q 0
            rw [a4 q hq, FM_a f0 (by decide)]
      · obtain ⟨a1, a2, a3, a4⟩ := F57 hS (a := 123) (s := 17) (by decide +kernel) (by decide +kernel) (by decide) q1
        refine done (FM_mono a2 (by decide) (by decide)) a1 (FM_i a2 (by decide)) (fun x hx => ⟨FM_i a2 (by decide), FM_a a2 (by decide), FM_i a2 (by decide), FM_i a2 (by decide), FM_i a2 (by decide)⟩) (fun u hu k => vcl_x a2 (by decide) (by decide) u hu k) (fun u hu => ?_)
        have cu : u = 0 ∨ u = 1 := by omega
        rcases cu with rfl | rfl
        · obtain ⟨y1, y2⟩ := hv 0 (by omega)
          refine ⟨?_, fun q hq => ?_⟩
          · rw [← y1]; exact FM_i a2 (by decide)
          · rw [← y2 q hq, FM_a a2 (by decide)]
        · refine ⟨?_, fun q hq => ?_⟩
          · show gI w2 123 0 = gI w0 17 0
            rw [a3]; exact FM_i f0 (by decide)
          · show (gA w2 124).getD q 0 = (gA w0 18).getD q 0
            rw [a4 q hq, FM_a f0 (by decide)]
      · obtain ⟨a1, a2, a3, a4⟩ := F57 hS (a := 125) (s := 19) (by decide +kernel) (by decide +kernel) (by decide) q1
        refine done (FM_mono a2 (by decide) (by decide)) a1 (FM_i a2 (by decide)) (fun x hx => ⟨FM_i a2 (by decide), FM_a a2 (by decide), FM_i a2 (by decide), FM_i a2 (by decide), FM_i a2 (by decide)⟩) (fun u hu k => vcl_x a2 (by decide) (by decide) u hu k) (fun u hu => ?_)
        have cu : u = 0 ∨ u = 1 ∨ u = 2 := by omega
        rcases cu with rfl | rfl | rfl
        · obtain ⟨y1, y2⟩ := hv 0 (by omega)
          refine ⟨?_, fun q hq => ?_⟩
          · rw [← y1]; exact FM_i a2 (by decide)
          · rw [← y2 q hq, FM_a a2 (by decide)]
        · obtain ⟨y1, y2⟩ := hv 1 (by omega)
          refine ⟨?_, fun q hq => ?_⟩
          · rw [← y1]; exact FM_i a2 (by decide)
          · rw [← y2 q hq, FM_a a2 (by decide)]
        · refine ⟨?_, fun q hq => ?_⟩
          · show gI w2 125 0 = gI w0 19 0
            rw [a3]; exact FM_i f0 (by decide)
          · show (gA w2 126).getD q 0 = (gA w0 20).getD q 0
            rw [a4 q hq, FM_a f0 (by decide)]
theorem F71_107_1 {L : Nat} (hS : SK w) (h0 : 0 ≤ (gI w 1 2).toInt) (h2 : (gI w 1 2).toInt ≤ 2) (h1 : 0 ≤ (gI w 1 3).toInt) (h3 : (gI w 1 3).toInt ≤ 3) (hl : (gI w 1 5).toInt = L) (h6 : L ≤ 600) (h : PS X k 71 0 [.ref 107, .ref 1, pm_dead] [] w r w') : r = none ∧ FM tF107 tA107 w w' ∧ gI w' 107 2 = gI w 1 2 ∧ gI w' 107 3 = gI w 1 3 ∧ gI w' 107 5 = gI w 1 5 ∧ gI w' 107 6 = gI w 1 6 ∧ gI w' 107 7 = gI w 1 7 ∧ (∀ j, j < L → (gA w' 110).getD j 0 = (gA w 4).getD j 0) ∧ (∀ u, u < (gI w 1 2).toInt.toNat → ∀ k, vcl w' (111 + 5 * u) k = vcl w (5 + 5 * u) k) ∧ (∀ u, u < (gI w 1 3).toInt.toNat → gI w' (121 + 2 * u) 0 = gI w (15 + 2 * u) 0 ∧ ∀ q, q < 270 → (gA w' (122 + 2 * u)).getD q 0 = (gA w (16 + 2 * u)).getD q 0) := by
  cases k with
  | zero => exact (PS_0 h).elim
  | succ k =>
    have h := U71_0 hS h _ rfl _ rfl
    have fa : FM tF107 tA107 w (sI w 107 2 (gI w 1 2)) := FM_sI hS (by decide)
    obtain ⟨w2, e2⟩ : ∃ w2, w2 = sI (sI w 107 2 (gI w 1 2)) 107 3 (gI (sI w 107 2 (gI w 1 2)) 1 3) := ⟨_, rfl⟩
    rw [← e2] at h
    have fb : FM tF107 tA107 w w2 := FM_trans fa (by rw [e2]; exact FM_sI fa.2.2.2 (by decide))
    have g2 : gI w2 107 2 = gI w 1 2 := by rw [e2, gI_sI_ne (by decide), gI_sI (SK_isF hS (by decide +kernel))]
    have g3 : gI w2 107 3 = gI w 1 3 := by rw [e2, gI_sI (SK_isF fa.2.2.2 (by decide +kernel)), gI_sI_ne (by decide)]
    obtain ⟨k3, w3, f3, a1, a2, a3, h⟩ := L71v_107_1 (cN := (gI w 1 2).toInt.toNat) hS (by omega) (by omega) _ w2 0 0 fb g2 z32 (Nat.zero_le _) (fun u hu => absurd hu (Nat.not_lt_zero u)) h
    obtain ⟨k4, w4, i4, f4, b1, b2, b3, b4, h⟩ := L71r_107_1 (cN := (gI w 1 3).toInt.toNat) (vN := (gI w 1 2).toInt.toNat) hS (by omega) (by omega) (by omega) _ w3 0 0 f3 (a2.trans g3) a1 z32 (Nat.zero_le _) a3 (fun u hu => absurd hu (Nat.not_lt_zero u)) h
    have S4 := f4.2.2.2
    obtain ⟨hc, h⟩ := h _ rfl
    have h := h _ rfl _ rfl _ rfl
    obtain ⟨w5, e5⟩ : ∃ w5, w5 = sI w4 107 5 (gI w4 1 5) := ⟨_, rfl⟩
    rw [← e5] at h hc
    have f5 : FM [(107, 5)] [] w4 w5 := by rw [e5]; exact FM_sI S4 (by decide)
    have S5 := f5.2.2.2
    have g5 : gI w5 107 5 = gI w 1 5 := by rw [e5, gI_sI (SK_isF S4 (by decide +kernel))]; exact FM_i f4 (by decide)
    have r1 : gR w5 1 4 = 4 := sk_fix S5 (by decide +kernel) (by decide)
    have r2 : gR w5 107 4 = 110 := sk_fix S5 (by decide +kernel) (by decide)
    rw [r1, r2, g5] at h hc
    obtain ⟨w6, e6⟩ : ∃ w6, w6 = cpS w5 4 110 0 0 (gI w 1 5) := ⟨_, rfl⟩
    rw [← e6] at h
    have f6 : FM [] [110] w5 w6 := by rw [e6]; exact FM_cpS hc S5 (by decide)
    have S6 := f6.2.2.2
    have t6 : ∀ j, j < L → (gA w6 110).getD j 0 = (gA w 4).getD j 0 := by
      intro j hj
      rw [e6, cpS_A hc (SK_isA S5 (by decide +kernel)), hl, z32, cpy_getF (by rw [SK_len S5 (a := 4) (n := 600) (by decide +kernel) (by decide)]; show 0 + L ≤ 600; omega) (by rw [SK_len S5 (a := 110) (n := 600) (by decide +kernel) (by decide)]; show 0 + L ≤ 600; omega), if_pos (by show 0 ≤ j ∧ j < 0 + L; omega)]
      show (gA w5 4).getD (0 + (j - 0)) 0 = _
      rw [show 0 + (j - 0) = j by omega, FM_a f5 (by intro z; cases z), FM_a f4 (by decide)]
    obtain ⟨w7, e7⟩ : ∃ w7, w7 = sI w6 107 6 (gI w6 1 6) := ⟨_, rfl⟩
    rw [← e7] at h
    have f7 : FM [(107, 6)] [] w6 w7 := by rw [e7]; exact FM_sI S6 (by decide)
    have S7 := f7.2.2.2
    have f8 : FM [(107, 7)] [] w7 w' := by rw [h.2]; exact FM_sI S7 (by decide)
    have s6 : gI w6 1 6 = gI w 1 6 := by rw [FM_i f6 (by intro z; cases z), FM_i f5 (by decide), FM_i f4 (by decide)]
    have s7 : gI w7 1 7 = gI w 1 7 := by rw [FM_i f7 (by decide), FM_i f6 (by intro z; cases z), FM_i f5 (by decide), FM_i f4 (by decide)]
    have fx : FM [(107, 5), (107, 6), (107, 7)] [110] w4 w' := FM_trans (FM_mono f5 (by decide) (by decide)) (FM_trans (FM_mono f6 (by intro x hx; cases hx) (by decide)) (FM_trans (FM_mono f7 (by decide) (by decide)) (FM_mono f8 (by decide) (by decide))))
    refine ⟨h.1, FM_trans f4 (FM_mono fx (by decide) (by decide)), (FM_i fx (by decide)).trans b1, (FM_i fx (by decide)).trans b2, ?_, ?_, ?_, fun j hj => ?_, fun u hu k => ?_, fun u hu => ?_⟩
    · rw [FM_i f8 (by decide), FM_i f7 (by decide), FM_i f6 (by intro z; cases z)]; exact g5
    · rw [FM_i f8 (by decide), e7, gI_sI (SK_isF S6 (by decide +kernel))]; exact s6
    · rw [h.2, gI_sI (SK_isF S7 (by decide +kernel))]; exact s7
    · rw [FM_a f8 (by intro z; cases z), FM_a f7 (by intro z; cases z)]; exact t6 j hj
    · rw [← b3 u hu k]
      have cu : u = 0 ∨ u = 1 := by omega
      rcases cu with rfl | rfl
      · exact vcl_FMv S4 fx (by decide +kernel) (by decide) (by decide) (by decide) (by decide) (by decide) (by decide) (by decide) k
      · exact vcl_FMv S4 fx (by decide +kernel) (by decide) (by decide) (by decide) (by decide) (by decide) (by decide) (by decide) k
    · obtain ⟨y1, y2⟩ := b4 u hu
      have cu : u = 0 ∨ u = 1 ∨ u = 2 := by omega
      refine ⟨?_, fun q hq => ?_⟩
      · rw [← y1]
        rcases cu with rfl | rfl | rfl <;> exact FM_i fx (by decide)
      · rw [← y2 q hq]
        rcases cu with rfl | rfl | rfl <;> rw [FM_a fx (by decide)]
/-- a told object copied is told alike -/
theorem TE71_107_1 {a : Nat → Int32} (hS : SK w) (hTE : TE w 1 a) (h : PS X k 71 0 [.ref 107, .ref 1, pm_dead] [] w r w') : r = none ∧ FM tF107 tA107 w w' ∧ TE w' 107 a := by
  obtain ⟨⟨r1, r2, r3, r4, r5, r6, r7⟩, t1, t2, t3, t4, t5, t6, t7, t8⟩ := hTE
  obtain ⟨z1, z2, z3, z4, z5, z6, z7, z8, z9, z10⟩ := F71_107_1 (L := (a 2).toInt.toNat) hS (by rw [t1]; exact r1) (by rw [t1]; exact r2) (by rw [t2]; exact r3) (by rw [t2]; exact r4) (by rw [t3]; omega) (by omega) h
  rw [t1] at z9
  rw [t2] at z10
  refine ⟨z1, z2, ⟨r1, r2, r3, r4, r5, r6, r7⟩, z3.trans t1, z4.trans t2, z5.trans t3, z6.trans t4, z7.trans t5, fun j hj => ?_, fun u hu k hk => ?_, fun u hu => ?_⟩
  · show BY ((gA w' 110).getD j 0) _
    rw [z8 j hj]
    exact t6 j hj
  · exact (z9 u hu k).trans (t7 u hu k hk)
  · obtain ⟨y1, y2⟩ := z10 u hu
    obtain ⟨x1, x2⟩ := t8 u hu
    have ra := r7 u hu
    exact ⟨y1.trans x1, fun q hq => (y2 q (by omega)).trans (x2 q hq)⟩
theorem L71v_127_1 {w0 : pm_W} {cnt : Int32} {cN : Nat} (hS0 : SK w0) (hc : cnt.toInt = cN) (hc2 : cN ≤ 2) : ∀ (k : Nat) (w : pm_W) (t : Nat) (i2 : Int32), FM tF127 tA127 w0 w → gI w 127 2 = cnt → i2.toInt = t → t ≤ cN → (∀ u, u < t → ∀ k, vcl w (131 + 5 * u) k = vcl w0 (5 + 5 * u) k) → PS X k 71 18 [.ref 127, .ref 1, .int i2] [] w r w' → ∃ (k' : Nat) (w1 : pm_W), FM tF127 tA127 w0 w1 ∧ gI w1 127 2 = cnt ∧ gI w1 127 3 = gI w 127 3 ∧ (∀ u, u < cN → ∀ k, vcl w1 (131 + 5 * u) k = vcl w0 (5 + 5 * u) k) ∧ PS X k' 71 49 [.ref 127, .ref 1, .int 0] [] w1 r w' := by
  intro k
  induction k with
  | zero => intro w t i2 f0 gc h2 ht hv h; exact (PS_0 h).elim
  | succ k ih =>
    intro w t i2 f0 gc h2 ht hv h
    have hS := f0.2.2.2
    have h := U71_18 hS h
    rw [gc] at h
    by_cases c : cnt ≤ i2
    · rw [if_pos c] at h
      rw [Int32.le_iff_toInt_le, hc, h2] at c
      exact ⟨k, w, f0, gc, rfl, fun u hu => hv u (by omega), h⟩
    · rw [if_neg c] at h
      rw [Int32.le_iff_toInt_le, hc, h2] at c
      obtain ⟨_, _, r1, w2, q1, q2⟩ := h
      have e1 : gR w 127 0 = 128 := sk_fix hS (by decide +kernel) (by decide)
      have e2 : gR w 1 0 = 2 := sk_fix hS (by decide +kernel) (by decide)
      have k1 : gQ w 128 = [some 131, some 136] := by rw [SK_Q hS]; decide +kernel
      have k2 : gQ w 2 = [some 5, some 10] := by rw [SK_Q hS]; decide +kernel
      unfold qG at q1
      rw [e1, e2, k1, k2, i_nat h2] at q1
      have ct : t = 0 ∨ t = 1 := by omega
      have done : ∀ (fm : FM tF127 tA127 w w2), r1 = none → gI w2 127 2 = gI w 127 2 → gI w2 127 3 = gI w 127 3 → (∀ u, u < t + 1 → ∀ k, vcl w2 (131 + 5 * u) k = vcl w0 (5 + 5 * u) k) → ∃ (k' : Nat) (w1 : pm_W), FM tF127 tA127 w0 w1 ∧ gI w1 127 2 = cnt ∧ gI w1 127 3 = gI w 127 3 ∧ (∀ u, u < cN → ∀ k, vcl w1 (131 + 5 * u) k = vcl w0 (5 + 5 * u) k) ∧ PS X k' 71 49 [.ref 127, .ref 1, .int 0] [] w1 r w' := by
        intro fm er z2 z3 z4
        obtain ⟨k', w1, y1, y2, y3, y4⟩ := ih w2 (t + 1) (i2 + 1) (FM_trans f0 fm) (z2.trans gc) (by rw [zi_inc (n := 2) (by omega) (by omega), h2]; rfl) (by omega) z4 (q2 er fm.2.2.2)
        exact ⟨k', w1, y1, y2, y3.trans z3, y4⟩
      rcases ct with rfl | rfl
      · obtain ⟨a1, a2, a3⟩ := F56 hS (a := 131) (s := 5) (by decide +kernel) (by decide +kernel) (by decide) q1
        refine done (FM_mono a2 (by decide) (by decide)) a1 (FM_i a2 (by decide)) (FM_i a2 (by decide)) (fun u hu k => ?_)
        have eu : u = 0 := by omega
        subst eu
        rw [show 131 + 5 * 0 = 131 from rfl, show 5 + 5 * 0 = 5 from rfl, a3 k]
        exact vcl_FMv hS0 f0 (by decide +kernel) (by decide) (by decide) (by decide) (by decide) (by decide) (by decide) (by decide) k
      · obtain ⟨a1, a2, a3⟩ := F56 hS (a := 136) (s := 10) (by decide +kernel) (by decide +kernel) (by decide) q1
        refine done (FM_mono a2 (by decide) (by decide)) a1 (FM_i a2 (by decide)) (FM_i a2 (by decide)) (fun u hu k => ?_)
        have cu : u = 0 ∨ u = 1 := by omega
        rcases cu with rfl | rfl
        · rw [← hv 0 (by omega) k]
          exact vcl_FMv hS a2 (by decide +kernel) (by decide) (by decide) (by decide) (by decide) (by decide) (by decide) (by decide) k
        · rw [show 131 + 5 * 1 = 136 from rfl, show 5 + 5 * 1 = 10 from rfl, a3 k]
          exact vcl_FMv hS0 f0 (by decide +kernel) (by decide) (by decide) (by decide) (by decide) (by decide) (by decide) (by decide) k
theorem L71r_127_1 {w0 : pm_W} {cnt vc : Int32} {cN vN : Nat} (hS0 : SK w0) (hc : cnt.toInt = cN) (hc2 : cN ≤ 3) (hv2 : vN ≤ 2) : ∀ (k : Nat) (w : pm_W) (t : Nat) (i2 : Int32), FM tF127 tA127 w0 w → gI w 127 3 = cnt → gI w 127 2 = vc → i2.toInt = t → t ≤ cN → (∀ u, u < vN → ∀ k, vcl w (131 + 5 * u) k = vcl w0 (5 + 5 * u) k) → (∀ u, u < t → gI w (141 + 2 * u) 0 = gI w0 (15 + 2 * u) 0 ∧ ∀ q, q < 270 → (gA w (142 + 2 * u)).getD q 0 = (gA w0 (16 + 2 * u)).getD q 0) → PS X k 71 49 [.ref 127, .ref 1, .int i2] [] w r w' → ∃ (k' : Nat) (w1 : pm_W) (i2' : Int32), FM tF127 tA127 w0 w1 ∧ gI w1 127 2 = vc ∧ gI w1 127 3 = cnt ∧ (∀ u, u < vN → ∀ k, vcl w1 (131 + 5 * u) k = vcl w0 (5 + 5 * u) k) ∧ (∀ u, u < cN → gI w1 (141 + 2 * u) 0 = gI w0 (15 + 2 * u) 0 ∧ ∀ q, q < 270 → (gA w1 (142 + 2 * u)).getD q 0 = (gA w0 (16 + 2 * u)).getD q 0) ∧ (∀ w2 : pm_W, w2 = sI w1 127 5 (gI w1 1 5) → (cpI w2 (gR w2 1 4) (gR w2 127 4) 0 0 (gI w2 127 5) ∧ (∀ w3 : pm_W, w3 = cpS w2 (gR w2 1 4) (gR w2 127 4) 0 0 (gI w2 127 5) → (∀ w4 : pm_W, w4 = sI w3 127 6 (gI w3 1 6) → (∀ w5 : pm_W, w5 = sI w4 127 7 (gI w4 1 7) → (r = none ∧ w' = w5)))))) := by
  intro k
  induction k with
  | zero => intro w t i2 f0 gc gv h2 ht hvv hv h; exact (PS_0 h).elim
  | succ k ih =>
    intro w t i2 f0 gc gv h2 ht hvv hv h
    have hS := f0.2.2.2
    have h := U71_49 hS h
    rw [gc] at h
    by_cases c : cnt ≤ i2
    · rw [if_pos c] at h
      rw [Int32.le_iff_toInt_le, hc, h2] at c
      exact ⟨k, w, i2, f0, gv, gc, hvv, fun u hu => hv u (by omega), h⟩
    · rw [if_neg c] at h
      rw [Int32.le_iff_toInt_le, hc, h2] at c
      obtain ⟨_, _, r1, w2, q1, q2⟩ := h
      have e1 : gR w 127 1 = 129 := sk_fix hS (by decide +kernel) (by decide)
      have e2 : gR w 1 1 = 3 := sk_fix hS (by decide +kernel) (by decide)
      have k1 : gQ w 129 = [some 141, some 143, some 145] := by rw [SK_Q hS]; decide +kernel
      have k2 : gQ w 3 = [some 15, some 17, some 19] := by rw [SK_Q hS]; decide +kernel
      unfold qG at q1
      rw [e1, e2, k1, k2, i_nat h2] at q1
      have ct : t = 0 ∨ t = 1 ∨ t = 2 := by omega
      have vcl_x : ∀ {fs : List (Nat × Nat)} {as : List Nat} (fm : FM fs as w w2), (∀ p, p ∈ [(131, 0), (131, 1), (131, 2), (136, 0), (136, 1), (136, 2)] → p ∉ fs) → (∀ x, x ∈ [131 + 1, 131 + 2, 131 + 3, 131 + 4, 136 + 1, 136 + 2, 136 + 3, 136 + 4] → x ∉ as) → ∀ u, u < vN → ∀ k, vcl w2 (131 + 5 * u) k = vcl w0 (5 + 5 * u) k := by
        intro fs as fm h1 h2 u hu k
        rw [← hvv u hu k]
        have cu : u = 0 ∨ u = 1 := by omega
        rcases cu with rfl | rfl
        · exact vcl_FMv hS fm (by decide +kernel) (h1 _ (by decide)) (h1 _ (by decide)) (h1 _ (by decide)) (h2 _ (by decide)) (h2 _ (by decide)) (h2 _ (by decide)) (h2 _ (by decide)) k
        · exact vcl_FMv hS fm (by decide +kernel) (h1 _ (by decide)) (h1 _ (by decide)) (h1 _ (by decide)) (h2 _ (by decide)) (h2 _ (by decide)) (h2 _ (by decide)) (h2 _ (by decide)) k
      have done : ∀ (fm : FM tF127 tA127 w w2), r1 = none → gI w2 127 3 = gI w 127 3 → (∀ x : Nat, x = 0 → gI w2 127 2 = gI w 127 2 ∧ gA w2 130 = gA w 130 ∧ gI w2 127 5 = gI w 127 5 ∧ gI w2 127 6 = gI w 127 6 ∧ gI w2 127 7 = gI w 127 7) → (∀ u, u < vN → ∀ k, vcl w2 (131 + 5 * u) k = vcl w0 (5 + 5 * u) k) → (∀ u, u < t + 1 → gI w2 (141 + 2 * u) 0 = gI w0 (15 + 2 * u) 0 ∧ ∀ q, q < 270 → (gA w2 (142 + 2 * u)).getD q 0 = (gA w0 (16 + 2 * u)).getD q 0) → _ := fun fm er z1 z2 z3 z4 => ih w2 (t + 1) (i2 + 1) (FM_trans f0 fm) (z1.trans gc) ((z2 0 rfl).1.trans gv) (by rw [zi_inc (n := 3) (by omega) (by omega), h2]; rfl) (by omega) z3 z4 (q2 er fm.2.2.2)
      rcases ct with rfl | rfl | rfl
      · obtain ⟨a1, a2, a3, a4⟩ := F57 hS (a := 141) (s := 15) (by decide +kernel) (by decide +kernel) (by decide) q1
        refine done (FM_mono a2 (by decide) (by decide)) a1 (FM_i a2 (by decide)) (fun x hx => ⟨FM_i a2 (by decide), FM_a a2 (by decide), FM_i a2 (by decide), FM_i a2 (by decide), FM_i a2 (by decide)⟩) (fun u hu k => vcl_x a2 (by decide) (by decide) u hu k) (fun u hu => ?_)
        have cu : u = 0 := by omega
        subst cu
        · refine ⟨?_, fun q hq => ?_⟩
          · show gI w2 141 0 = gI w0 15 0
            rw [a3]; exact FM_i f0 (by decide)
          · show (gA w2 142).getD q 0 = (gA w0 16).getD q 0
            rw [a4 q hq, FM_a f0 (by decide)]
      · obtain ⟨a1, a2, a3, a4⟩ := F57 hS (a := 143) (s := 17) (by decide +kernel) (by decide +kernel) (by decide) q1
        refine done (FM_mono a2 (by decide) (by decide)) a1 (FM_i a2 (by decide)) (fun x hx => ⟨FM_i a2 (by decide), FM_a a2 (by decide), FM_i a2 (by decide), FM_i a2 (by decide), FM_i a2 (by decide)⟩) (fun u hu k => vcl_x a2 (by decide) (by decide) u hu k) (fun u hu => ?_)
        have cu : u = 0 ∨ u = 1 := by omega
        rcases cu with rfl | rfl
        · obtain ⟨y1, y2⟩ := hv 0 (by omega)
          refine ⟨?_, fun q hq => ?_⟩
          · rw [← y1]; exact FM_i a2 (by decide)
          · rw [← y2 q hq, FM_a a2 (by decide)]
        · refine ⟨?_, fun q hq => ?_⟩
          · show gI w2 143 0 = gI w0 17 0
            rw [a3]; exact FM_i f0 (by decide)
          · show (gA w2 144).getD q 0 = (gA w0 18).getD q 0
            rw [a4 q hq, FM_a f0 (by decide)]
      · obtain ⟨a1, a2, a3, a4⟩ := F57 hS (a := 145) (s := 19) (by decide +kernel) (by decide +kernel) (by decide) q1
        refine done (FM_mono a2 (by decide) (by decide)) a1 (FM_i a2 (by decide)) (fun x hx => ⟨FM_i a2 (by decide), FM_a a2 (by decide), FM_i a2 (by decide), FM_i a2 (by decide), FM_i a2 (by decide)⟩) (fun u hu k => vcl_x a2 (by decide) (by decide) u hu k) (fun u hu => ?_)
        have cu : u = 0 ∨ u = 1 ∨ u = 2 := by omega
        rcases cu with rfl | rfl | rfl
        · obtain ⟨y1, y2⟩ := hv 0 (by omega)
          refine ⟨?_, fun q hq => ?_⟩
          · rw [← y1]; exact FM_i a2 (by decide)
          · rw [← y2 q hq, FM_a a2 (by decide)]
        · obtain ⟨y1, y2⟩ := hv 1 (by omega)
          refine ⟨?_, fun q hq => ?_⟩
          · rw [← y1]; exact FM_i a2 (by decide)
          · rw [← y2 q hq, FM_a a2 (by decide)]
        · refine ⟨?_, fun q hq => ?_⟩
          · show gI w2 145 0 = gI w0 19 0
            rw [a3]; exact FM_i f0 (by decide)
          · show (gA w2 146).getD q 0 = (gA w0 20).getD q 0
            rw [a4 q hq, FM_a f0 (by decide)]
theorem F71_127_1 {L : Nat} (hS : SK w) (h0 : 0 ≤ (gI w 1 2).toInt) (h2 : (gI w 1 2).toInt ≤ 2) (h1 : 0 ≤ (gI w 1 3).toInt) (h3 : (gI w 1 3).toInt ≤ 3) (hl : (gI w 1 5).toInt = L) (h6 : L ≤ 600) (h : PS X k 71 0 [.ref 127, .ref 1, pm_dead] [] w r w') : r = none ∧ FM tF127 tA127 w w' ∧ gI w' 127 2 = gI w 1 2 ∧ gI w' 127 3 = gI w 1 3 ∧ gI w' 127 5 = gI w 1 5 ∧ gI w' 127 6 = gI w 1 6 ∧ gI w' 127 7 = gI w 1 7 ∧ (∀ j, j < L → (gA w' 130).getD j 0 = (gA w 4).getD j 0) ∧ (∀ u, u < (gI w 1 2).toInt.toNat → ∀ k, vcl w' (131 + 5 * u) k = vcl w (5 + 5 * u) k) ∧ (∀ u, u < (gI w 1 3).toInt.toNat → gI w' (141 + 2 * u) 0 = gI w (15 + 2 * u) 0 ∧ ∀ q, q < 270 → (gA w' (142 + 2 * u)).getD q 0 = (gA w (16 + 2 * u)).getD q 0) := by
  cases k with
  | zero => exact (PS_0 h).elim
  | succ k =>
    have h := U71_0 hS h _ rfl _ rfl
    have fa : FM tF127 tA127 w (sI w 127 2 (gI w 1 2)) := FM_sI hS (by decide)
    obtain ⟨w2, e2⟩ : ∃ w2, w2 = sI (sI w 127 2 (gI w 1 2)) 127 3 (gI (sI w 127 2 (gI w 1 2)) 1 3) := ⟨_, rfl⟩
    rw [← e2] at h
    have fb : FM tF127 tA127 w w2 := FM_trans fa (by rw [e2]; exact FM_sI fa.2.2.2 (by decide))
    have g2 : gI w2 127 2 = gI w 1 2 := by rw [e2, gI_sI_ne (by decide), gI_sI (SK_isF hS (by decide +kernel))]
    have g3 : gI w2 127 3 = gI w 1 3 := by rw [e2, gI_sI (SK_isF fa.2.2.2 (by decide +kernel)), gI_sI_ne (by decide)]
    obtain ⟨k3, w3, f3, a1, a2, a3, h⟩ := L71v_127_1 (cN := (gI w 1 2).toInt.toNat) hS (by omega) (by omega) _ w2 0 0 fb g2 z32 (Nat.zero_le _) (fun u hu => absurd hu (Nat.not_lt_zero u)) h
    obtain ⟨k4, w4, i4, f4, b1, b2, b3, b4, h⟩ := L71r_127_1 (cN := (gI w 1 3).toInt.toNat) (vN := (gI w 1 2).toInt.toNat) hS (by omega) (by omega) (by omega) _ w3 0 0 f3 (a2.trans g3) a1 z32 (Nat.zero_le _) a3 (fun u hu => absurd hu (Nat.not_lt_zero u)) h
    have S4 := f4.2.2.2
    obtain ⟨hc, h⟩ := h _ rfl
    have h := h _ rfl _ rfl _ rfl
    obtain ⟨w5, e5⟩ : ∃ w5, w5 = sI w4 127 5 (gI w4 1 5) := ⟨_, rfl⟩
    rw [← e5] at h hc
    have f5 : FM [(127, 5)] [] w4 w5 := by rw [e5]; exact FM_sI S4 (by decide)
    have S5 := f5.2.2.2
    have g5 : gI w5 127 5 = gI w 1 5 := by rw [e5, gI_sI (SK_isF S4 (by decide +kernel))]; exact FM_i f4 (by decide)
    have r1 : gR w5 1 4 = 4 := sk_fix S5 (by decide +kernel) (by decide)
    have r2 : gR w5 127 4 = 130 := sk_fix S5 (by decide +kernel) (by decide)
    rw [r1, r2, g5] at h hc
    obtain ⟨w6, e6⟩ : ∃ w6, w6 = cpS w5 4 130 0 0 (gI w 1 5) := ⟨_, rfl⟩
    rw [← e6] at h
    have f6 : FM [] [130] w5 w6 := by rw [e6]; exact FM_cpS hc S5 (by decide)
    have S6 := f6.2.2.2
    have t6 : ∀ j, j < L → (gA w6 130).getD j 0 = (gA w 4).getD j 0 := by
      intro j hj
      rw [e6, cpS_A hc (SK_isA S5 (by decide +kernel)), hl, z32, cpy_getF (by rw [SK_len S5 (a := 4) (n := 600) (by decide +kernel) (by decide)]; show 0 + L ≤ 600; omega) (by rw [SK_len S5 (a := 130) (n := 600) (by decide +kernel) (by decide)]; show 0 + L ≤ 600; omega), if_pos (by show 0 ≤ j ∧ j < 0 + L; omega)]
      show (gA w5 4).getD (0 + (j - 0)) 0 = _
      rw [show 0 + (j - 0) = j by omega, FM_a f5 (by intro z; cases z), FM_a f4 (by decide)]
    obtain ⟨w7, e7⟩ : ∃ w7, w7 = sI w6 127 6 (gI w6 1 6) := ⟨_, rfl⟩
    rw [← e7] at h
    have f7 : FM [(127, 6)] [] w6 w7 := by rw [e7]; exact FM_sI S6 (by decide)
    have S7 := f7.2.2.2
    have f8 : FM [(127, 7)] [] w7 w' := by rw [h.2]; exact FM_sI S7 (by decide)
    have s6 : gI w6 1 6 = gI w 1 6 := by rw [FM_i f6 (by intro z; cases z), FM_i f5 (by decide), FM_i f4 (by decide)]
    have s7 : gI w7 1 7 = gI w 1 7 := by rw [FM_i f7 (by decide), FM_i f6 (by intro z; cases z), FM_i f5 (by decide), FM_i f4 (by decide)]
    have fx : FM [(127, 5), (127, 6), (127, 7)] [130] w4 w' := FM_trans (FM_mono f5 (by decide) (by decide)) (FM_trans (FM_mono f6 (by intro x hx; cases hx) (by decide)) (FM_trans (FM_mono f7 (by decide) (by decide)) (FM_mono f8 (by decide) (by decide))))
    refine ⟨h.1, FM_trans f4 (FM_mono fx (by decide) (by decide)), (FM_i fx (by decide)).trans b1, (FM_i fx (by decide)).trans b2, ?_, ?_, ?_, fun j hj => ?_, fun u hu k => ?_, fun u hu => ?_⟩
    · rw [FM_i f8 (by decide), FM_i f7 (by decide), FM_i f6 (by intro z; cases z)]; exact g5
    · rw [FM_i f8 (by decide), e7, gI_sI (SK_isF S6 (by decide +kernel))]; exact s6
    · rw [h.2, gI_sI (SK_isF S7 (by decide +kernel))]; exact s7
    · rw [FM_a f8 (by intro z; cases z), FM_a f7 (by intro z; cases z)]; exact t6 j hj
    · rw [← b3 u hu k]
      have cu : u = 0 ∨ u = 1 := by omega
      rcases cu with rfl | rfl
      · exact vcl_FMv S4 fx (by decide +kernel) (by decide) (by decide) (by decide) (by decide) (by decide) (by decide) (by decide) k
      · exact vcl_FMv S4 fx (by decide +kernel) (by decide) (by decide) (by decide) (by decide) (by decide) (by decide) (by decide) k
    · obtain ⟨y1, y2⟩ := b4 u hu
      have cu : u = 0 ∨ u = 1 ∨ u = 2 := by omega
      refine ⟨?_, fun q hq => ?_⟩
      · rw [← y1]
        rcases cu with rfl | rfl | rfl <;> exact FM_i fx (by decide)
      · rw [← y2 q hq]
        rcases cu with rfl | rfl | rfl <;> rw [FM_a fx (by decide)]
/-- a told object copied is told alike -/
theorem TE71_127_1 {a : Nat → Int32} (hS : SK w) (hTE : TE w 1 a) (h : PS X k 71 0 [.ref 127, .ref 1, pm_dead] [] w r w') : r = none ∧ FM tF127 tA127 w w' ∧ TE w' 127 a := by
  obtain ⟨⟨r1, r2, r3, r4, r5, r6, r7⟩, t1, t2, t3, t4, t5, t6, t7, t8⟩ := hTE
  obtain ⟨z1, z2, z3, z4, z5, z6, z7, z8, z9, z10⟩ := F71_127_1 (L := (a 2).toInt.toNat) hS (by rw [t1]; exact r1) (by rw [t1]; exact r2) (by rw [t2]; exact r3) (by rw [t2]; exact r4) (by rw [t3]; omega) (by omega) h
  rw [t1] at z9
  rw [t2] at z10
  refine ⟨z1, z2, ⟨r1, r2, r3, r4, r5, r6, r7⟩, z3.trans t1, z4.trans t2, z5.trans t3, z6.trans t4, z7.trans t5, fun j hj => ?_, fun u hu k hk => ?_, fun u hu => ?_⟩
  · show BY ((gA w' 130).getD j 0) _
    rw [z8 j hj]
    exact t6 j hj
  · exact (z9 u hu k).trans (t7 u hu k hk)
  · obtain ⟨y1, y2⟩ := z10 u hu
    obtain ⟨x1, x2⟩ := t8 u hu
    have ra := r7 u hu
    exact ⟨y1.trans x1, fun q hq => (y2 q (by omega)).trans (x2 q hq)⟩
theorem L71v_1_87 {w0 : pm_W} {cnt : Int32} {cN : Nat} (hS0 : SK w0) (hc : cnt.toInt = cN) (hc2 : cN ≤ 2) : ∀ (k : Nat) (w : pm_W) (t : Nat) (i2 : Int32), FM tF1 tA1 w0 w → gI w 1 2 = cnt → i2.toInt = t → t ≤ cN → (∀ u, u < t → ∀ k, vcl w (5 + 5 * u) k = vcl w0 (91 + 5 * u) k) → PS X k 71 18 [.ref 1, .ref 87, .int i2] [] w r w' → ∃ (k' : Nat) (w1 : pm_W), FM tF1 tA1 w0 w1 ∧ gI w1 1 2 = cnt ∧ gI w1 1 3 = gI w 1 3 ∧ (∀ u, u < cN → ∀ k, vcl w1 (5 + 5 * u) k = vcl w0 (91 + 5 * u) k) ∧ PS X k' 71 49 [.ref 1, .ref 87, .int 0] [] w1 r w' := by
  intro k
  induction k with
  | zero => intro w t i2 f0 gc h2 ht hv h; exact (PS_0 h).elim
  | succ k ih =>
    intro w t i2 f0 gc h2 ht hv h
    have hS := f0.2.2.2
    have h := U71_18 hS h
    rw [gc] at h
    by_cases c : cnt ≤ i2
    · rw [if_pos c] at h
      rw [Int32.le_iff_toInt_le, hc, h2] at c
      exact ⟨k, w, f0, gc, rfl, fun u hu => hv u (by omega), h⟩
    · rw [if_neg c] at h
      rw [Int32.le_iff_toInt_le, hc, h2] at c
      obtain ⟨_, _, r1, w2, q1, q2⟩ := h
      have e1 : gR w 1 0 = 2 := sk_fix hS (by decide +kernel) (by decide)
      have e2 : gR w 87 0 = 88 := sk_fix hS (by decide +kernel) (by decide)
      have k1 : gQ w 2 = [some 5, some 10] := by rw [SK_Q hS]; decide +kernel
      have k2 : gQ w 88 = [some 91, some 96] := by rw [SK_Q hS]; decide +kernel
      unfold qG at q1
      rw [e1, e2, k1, k2, i_nat h2] at q1
      have ct : t = 0 ∨ t = 1 := by omega
      have done : ∀ (fm : FM tF1 tA1 w w2), r1 = none → gI w2 1 2 = gI w 1 2 → gI w2 1 3 = gI w 1 3 → (∀ u, u < t + 1 → ∀ k, vcl w2 (5 + 5 * u) k = vcl w0 (91 + 5 * u) k) → ∃ (k' : Nat) (w1 : pm_W), FM tF1 tA1 w0 w1 ∧ gI w1 1 2 = cnt ∧ gI w1 1 3 = gI w 1 3 ∧ (∀ u, u < cN → ∀ k, vcl w1 (5 + 5 * u) k = vcl w0 (91 + 5 * u) k) ∧ PS X k' 71 49 [.ref 1, .ref 87, .int 0] [] w1 r w' := by
        intro fm er z2 z3 z4
        obtain ⟨k', w1, y1, y2, y3, y4⟩ := ih w2 (t + 1) (i2 + 1) (FM_trans f0 fm) (z2.trans gc) (by rw [zi_inc (n := 2) (by omega) (by omega), h2]; rfl) (by omega) z4 (q2 er fm.2.2.2)
        exact ⟨k', w1, y1, y2, y3.trans z3, y4⟩
      rcases ct with rfl | rfl
      · obtain ⟨a1, a2, a3⟩ := F56 hS (a := 5) (s := 91) (by decide +kernel) (by decide +kernel) (by decide) q1
        refine done (FM_mono a2 (by decide) (by decide)) a1 (FM_i a2 (by decide)) (FM_i a2 (by decide)) (fun u hu k => ?_)
        have eu : u = 0 := by omega
        subst eu
        rw [show 5 + 5 * 0 = 5 from rfl, show 91 + 5 * 0 = 91 from rfl, a3 k]
        exact vcl_FMv hS0 f0 (by decide +kernel) (by decide) (by decide) (by decide) (by decide) (by decide) (by decide) (by decide) k
      · obtain ⟨a1, a2, a3⟩ := F56 hS (a := 10) (s := 96) (by decide +kernel) (by decide +kernel) (by decide) q1
        refine done (FM_mono a2 (by decide) (by decide)) a1 (FM_i a2 (by decide)) (FM_i a2 (by decide)) (fun u hu k => ?_)
        have cu : u = 0 ∨ u = 1 := by omega
        rcases cu with rfl | rfl
        · rw [← hv 0 (by omega) k]
          exact vcl_FMv hS a2 (by decide +kernel) (by decide) (by decide) (by decide) (by decide) (by decide) (by decide) (by decide) k
        · rw [show 5 + 5 * 1 = 10 from rfl, show 91 + 5 * 1 = 96 from rfl, a3 k]
          exact vcl_FMv hS0 f0 (by decide +kernel) (by decide) (by decide) (by decide) (by decide) (by decide) (by decide) (by decide) k
theorem L71r_1_87 {w0 : pm_W} {cnt vc : Int32} {cN vN : Nat} (hS0 : SK w0) (hc : cnt.toInt = cN) (hc2 : cN ≤ 3) (hv2 : vN ≤ 2) : ∀ (k : Nat) (w : pm_W) (t : Nat) (i2 : Int32), FM tF1 tA1 w0 w → gI w 1 3 = cnt → gI w 1 2 = vc → i2.toInt = t → t ≤ cN → (∀ u, u < vN → ∀ k, vcl w (5 + 5 * u) k = vcl w0 (91 + 5 * u) k) → (∀ u, u < t → gI w (15 + 2 * u) 0 = gI w0 (101 + 2 * u) 0 ∧ ∀ q, q < 270 → (gA w (16 + 2 * u)).getD q 0 = (gA w0 (102 + 2 * u)).getD q 0) → PS X k 71 49 [.ref 1, .ref 87, .int i2] [] w r w' → ∃ (k' : Nat) (w1 : pm_W) (i2' : Int32), FM tF1 tA1 w0 w1 ∧ gI w1 1 2 = vc ∧ gI w1 1 3 = cnt ∧ (∀ u, u < vN → ∀ k, vcl w1 (5 + 5 * u) k = vcl w0 (91 + 5 * u) k) ∧ (∀ u, u < cN → gI w1 (15 + 2 * u) 0 = gI w0 (101 + 2 * u) 0 ∧ ∀ q, q < 270 → (gA w1 (16 + 2 * u)).getD q 0 = (gA w0 (102 + 2 * u)).getD q 0) ∧ (∀ w2 : pm_W, w2 = sI w1 1 5 (gI w1 87 5) → (cpI w2 (gR w2 87 4) (gR w2 1 4) 0 0 (gI w2 1 5) ∧ (∀ w3 : pm_W, w3 = cpS w2 (gR w2 87 4) (gR w2 1 4) 0 0 (gI w2 1 5) → (∀ w4 : pm_W, w4 = sI w3 1 6 (gI w3 87 6) → (∀ w5 : pm_W, w5 = sI w4 1 7 (gI w4 87 7) → (r = none ∧ w' = w5)))))) := by
  intro k
  induction k with
  | zero => intro w t i2 f0 gc gv h2 ht hvv hv h; exact (PS_0 h).elim
  | succ k ih =>
    intro w t i2 f0 gc gv h2 ht hvv hv h
    have hS := f0.2.2.2
    have h := U71_49 hS h
    rw [gc] at h
    by_cases c : cnt ≤ i2
    · rw [if_pos c] at h
      rw [Int32.le_iff_toInt_le, hc, h2] at c
      exact ⟨k, w, i2, f0, gv, gc, hvv, fun u hu => hv u (by omega), h⟩
    · rw [if_neg c] at h
      rw [Int32.le_iff_toInt_le, hc, h2] at c
      obtain ⟨_, _, r1, w2, q1, q2⟩ := h
      have e1 : gR w 1 1 = 3 := sk_fix hS (by decide +kernel) (by decide)
      have e2 : gR w 87 1 = 89 := sk_fix hS (by decide +kernel) (by decide)
      have k1 : gQ w 3 = [some 15, some 17, some 19] := by rw [SK_Q hS]; decide +kernel
      have k2 : gQ w 89 = [some 101, some 103, some 105] := by rw [SK_Q hS]; decide +kernel
      unfold qG at q1
      rw [e1, e2, k1, k2, i_nat h2] at q1
      have ct : t = 0 ∨ t = 1 ∨ t = 2 := by omega
      have vcl_x : ∀ {fs : List (Nat × Nat)} {as : List Nat} (fm : FM fs as w w2), (∀ p, p ∈ [(5, 0), (5, 1), (5, 2), (10, 0), (10, 1), (10, 2)] → p ∉ fs) → (∀ x, x ∈ [5 + 1, 5 + 2, 5 + 3, 5 + 4, 10 + 1, 10 + 2, 10 + 3, 10 + 4] → x ∉ as) → ∀ u, u < vN → ∀ k, vcl w2 (5 + 5 * u) k = vcl w0 (91 + 5 * u) k := by
        intro fs as fm h1 h2 u hu k
        rw [← hvv u hu k]
        have cu : u = 0 ∨ u = 1 := by omega
        rcases cu with rfl | rfl
        · exact vcl_FMv hS fm (by decide +kernel) (h1 _ (by decide)) (h1 _ (by decide)) (h1 _ (by decide)) (h2 _ (by decide)) (h2 _ (by decide)) (h2 _ (by decide)) (h2 _ (by decide)) k
        · exact vcl_FMv hS fm (by decide +kernel) (h1 _ (by decide)) (h1 _ (by decide)) (h1 _ (by decide)) (h2 _ (by decide)) (h2 _ (by decide)) (h2 _ (by decide)) (h2 _ (by decide)) k
      have done : ∀ (fm : FM tF1 tA1 w w2), r1 = none → gI w2 1 3 = gI w 1 3 → (∀ x : Nat, x = 0 → gI w2 1 2 = gI w 1 2 ∧ gA w2 4 = gA w 4 ∧ gI w2 1 5 = gI w 1 5 ∧ gI w2 1 6 = gI w 1 6 ∧ gI w2 1 7 = gI w 1 7) → (∀ u, u < vN → ∀ k, vcl w2 (5 + 5 * u) k = vcl w0 (91 + 5 * u) k) → (∀ u, u < t + 1 → gI w2 (15 + 2 * u) 0 = gI w0 (101 + 2 * u) 0 ∧ ∀ q, q < 270 → (gA w2 (16 + 2 * u)).getD q 0 = (gA w0 (102 + 2 * u)).getD q 0) → _ := fun fm er z1 z2 z3 z4 => ih w2 (t + 1) (i2 + 1) (FM_trans f0 fm) (z1.trans gc) ((z2 0 rfl).1.trans gv) (by rw [zi_inc (n := 3) (by omega) (by omega), h2]; rfl) (by omega) z3 z4 (q2 er fm.2.2.2)
      rcases ct with rfl | rfl | rfl
      · obtain ⟨a1, a2, a3, a4⟩ := F57 hS (a := 15) (s := 101) (by decide +kernel) (by decide +kernel) (by decide) q1
        refine done (FM_mono a2 (by decide) (by decide)) a1 (FM_i a2 (by decide)) (fun x hx => ⟨FM_i a2 (by decide), FM_a a2 (by decide), FM_i a2 (by decide), FM_i a2 (by decide), FM_i a2 (by decide)⟩) (fun u hu k => vcl_x a2 (by decide) (by decide) u hu k) (fun u hu => ?_)
        have cu : u = 0 := by omega
        subst cu
        · refine ⟨?_, fun q hq => ?_⟩
          · show gI w2 15 0 = gI w0 101 0
            rw [a3]; exact FM_i f0 (by decide)
          · show (gA w2 16).getD q 0 = (gA w0 102).getD q 0
            rw [a4 q hq, FM_a f0 (by decide)]
      · obtain ⟨a1, a2, a3, a4⟩ := F57 hS (a := 17) (s := 103) (by decide +kernel) (by decide +kernel) (by decide) q1
        refine done (FM_mono a2 (by decide) (by decide)) a1 (FM_i a2 (by decide)) (fun x hx => ⟨FM_i a2 (by decide), FM_a a2 (by decide), FM_i a2 (by decide), FM_i a2 (by decide), FM_i a2 (by decide)⟩) (fun u hu k => vcl_x a2 (by decide) (by decide) u hu k) (fun u hu => ?_)
        have cu : u = 0 ∨ u = 1 := by omega
        rcases cu with rfl | rfl
        · obtain ⟨y1, y2⟩ := hv 0 (by omega)
          refine ⟨?_, fun q hq => ?_⟩
          · rw [← y1]; exact FM_i a2 (by decide)
          · rw [← y2 q hq, FM_a a2 (by decide)]
        · refine ⟨?_, fun q hq => ?_⟩
          · show gI w2 17 0 = gI w0 103 0
            rw [a3]; exact FM_i f0 (by decide)
          · show (gA w2 18).getD q 0 = (gA w0 104).getD q 0
            rw [a4 q hq, FM_a f0 (by decide)]
      · obtain ⟨a1, a2, a3, a4⟩ := F57 hS (a := 19) (s := 105) (by decide +kernel) (by decide +kernel) (by decide) q1
        refine done (FM_mono a2 (by decide) (by decide)) a1 (FM_i a2 (by decide)) (fun x hx => ⟨FM_i a2 (by decide), FM_a a2 (by decide), FM_i a2 (by decide), FM_i a2 (by decide), FM_i a2 (by decide)⟩) (fun u hu k => vcl_x a2 (by decide) (by decide) u hu k) (fun u hu => ?_)
        have cu : u = 0 ∨ u = 1 ∨ u = 2 := by omega
        rcases cu with rfl | rfl | rfl
        · obtain ⟨y1, y2⟩ := hv 0 (by omega)
          refine ⟨?_, fun q hq => ?_⟩
          · rw [← y1]; exact FM_i a2 (by decide)
          · rw [← y2 q hq, FM_a a2 (by decide)]
        · obtain ⟨y1, y2⟩ := hv 1 (by omega)
          refine ⟨?_, fun q hq => ?_⟩
          · rw [← y1]; exact FM_i a2 (by decide)
          · rw [← y2 q hq, FM_a a2 (by decide)]
        · refine ⟨?_, fun q hq => ?_⟩
          · show gI w2 19 0 = gI w0 105 0
            rw [a3]; exact FM_i f0 (by decide)
          · show (gA w2 20).getD q 0 = (gA w0 106).getD q 0
            rw [a4 q hq, FM_a f0 (by decide)]
theorem F71_1_87 {L : Nat} (hS : SK w) (h0 : 0 ≤ (gI w 87 2).toInt) (h2 : (gI w 87 2).toInt ≤ 2) (h1 : 0 ≤ (gI w 87 3).toInt) (h3 : (gI w 87 3).toInt ≤ 3) (hl : (gI w 87 5).toInt = L) (h6 : L ≤ 600) (h : PS X k 71 0 [.ref 1, .ref 87, pm_dead] [] w r w') : r = none ∧ FM tF1 tA1 w w' ∧ gI w' 1 2 = gI w 87 2 ∧ gI w' 1 3 = gI w 87 3 ∧ gI w' 1 5 = gI w 87 5 ∧ gI w' 1 6 = gI w 87 6 ∧ gI w' 1 7 = gI w 87 7 ∧ (∀ j, j < L → (gA w' 4).getD j 0 = (gA w 90).getD j 0) ∧ (∀ u, u < (gI w 87 2).toInt.toNat → ∀ k, vcl w' (5 + 5 * u) k = vcl w (91 + 5 * u) k) ∧ (∀ u, u < (gI w 87 3).toInt.toNat → gI w' (15 + 2 * u) 0 = gI w (101 + 2 * u) 0 ∧ ∀ q, q < 270 → (gA w' (16 + 2 * u)).getD q 0 = (gA w (102 + 2 * u)).getD q 0) := by
  cases k with
  | zero => exact (PS_0 h).elim
  | succ k =>
    have h := U71_0 hS h _ rfl _ rfl
    have fa : FM tF1 tA1 w (sI w 1 2 (gI w 87 2)) := FM_sI hS (by decide)
    obtain ⟨w2, e2⟩ : ∃ w2, w2 = sI (sI w 1 2 (gI w 87 2)) 1 3 (gI (sI w 1 2 (gI w 87 2)) 87 3) := ⟨_, rfl⟩
    rw [← e2] at h
    have fb : FM tF1 tA1 w w2 := FM_trans fa (by rw [e2]; exact FM_sI fa.2.2.2 (by decide))
    have g2 : gI w2 1 2 = gI w 87 2 := by rw [e2, gI_sI_ne (by decide), gI_sI (SK_isF hS (by decide +kernel))]
    have g3 : gI w2 1 3 = gI w 87 3 := by rw [e2, gI_sI (SK_isF fa.2.2.2 (by decide +kernel)), gI_sI_ne (by decide)]
    obtain ⟨k3, w3, f3, a1, a2, a3, h⟩ := L71v_1_87 (cN := (gI w 87 2).toInt.toNat) hS (by omega) (by omega) _ w2 0 0 fb g2 z32 (Nat.zero_le _) (fun u hu => absurd hu (Nat.not_lt_zero u)) h
    obtain ⟨k4, w4, i4, f4, b1, b2, b3, b4, h⟩ := L71r_1_87 (cN := (gI w 87 3).toInt.toNat) (vN := (gI w 87 2).toInt.toNat) hS (by omega) (by omega) (by omega) _ w3 0 0 f3 (a2.trans g3) a1 z32 (Nat.zero_le _) a3 (fun u hu => absurd hu (Nat.not_lt_zero u)) h
    have S4 := f4.2.2.2
    obtain ⟨hc, h⟩ := h _ rfl
    have h := h _ rfl _ rfl _ rfl
    obtain ⟨w5, e5⟩ : ∃ w5, w5 = sI w4 1 5 (gI w4 87 5) := ⟨_, rfl⟩
    rw [← e5] at h hc
    have f5 : FM [(1, 5)] [] w4 w5 := by rw [e5]; exact FM_sI S4 (by decide)
    have S5 := f5.2.2.2
    have g5 : gI w5 1 5 = gI w 87 5 := by rw [e5, gI_sI (SK_isF S4 (by decide +kernel))]; exact FM_i f4 (by decide)
    have r1 : gR w5 87 4 = 90 := sk_fix S5 (by decide +kernel) (by decide)
    have r2 : gR w5 1 4 = 4 := sk_fix S5 (by decide +kernel) (by decide)
    rw [r1, r2, g5] at h hc
    obtain ⟨w6, e6⟩ : ∃ w6, w6 = cpS w5 90 4 0 0 (gI w 87 5) := ⟨_, rfl⟩
    rw [← e6] at h
    have f6 : FM [] [4] w5 w6 := by rw [e6]; exact FM_cpS hc S5 (by decide)
    have S6 := f6.2.2.2
    have t6 : ∀ j, j < L → (gA w6 4).getD j 0 = (gA w 90).getD j 0 := by
      intro j hj
      rw [e6, cpS_A hc (SK_isA S5 (by decide +kernel)), hl, z32, cpy_getF (by rw [SK_len S5 (a := 90) (n := 600) (by decide +kernel) (by decide)]; show 0 + L ≤ 600; omega) (by rw [SK_len S5 (a := 4) (n := 600) (by decide +kernel) (by decide)]; show 0 + L ≤ 600; omega), if_pos (by show 0 ≤ j ∧ j < 0 + L; omega)]
      show (gA w5 90).getD (0 + (j - 0)) 0 = _
      rw [show 0 + (j - 0) = j by omega, FM_a f5 (by intro z; cases z), FM_a f4 (by decide)]
    obtain ⟨w7, e7⟩ : ∃ w7, w7 = sI w6 1 6 (gI w6 87 6) := ⟨_, rfl⟩
    rw [← e7] at h
    have f7 : FM [(1, 6)] [] w6 w7 := by rw [e7]; exact FM_sI S6 (by decide)
    have S7 := f7.2.2.2
    have f8 : FM [(1, 7)] [] w7 w' := by rw [h.2]; exact FM_sI S7 (by decide)
    have s6 : gI w6 87 6 = gI w 87 6 := by rw [FM_i f6 (by intro z; cases z), FM_i f5 (by decide), FM_i f4 (by decide)]
    have s7 : gI w7 87 7 = gI w 87 7 := by rw [FM_i f7 (by decide), FM_i f6 (by intro z; cases z), FM_i f5 (by decide), FM_i f4 (by decide)]
    have fx : FM [(1, 5), (1, 6), (1, 7)] [4] w4 w' := FM_trans (FM_mono f5 (by decide) (by decide)) (FM_trans (FM_mono f6 (by intro x hx; cases hx) (by decide)) (FM_trans (FM_mono f7 (by decide) (by decide)) (FM_mono f8 (by decide) (by decide))))
    refine ⟨h.1, FM_trans f4 (FM_mono fx (by decide) (by decide)), (FM_i fx (by decide)).trans b1, (FM_i fx (by decide)).trans b2, ?_, ?_, ?_, fun j hj => ?_, fun u hu k => ?_, fun u hu => ?_⟩
    · rw [FM_i f8 (by decide), FM_i f7 (by decide), FM_i f6 (by intro z; cases z)]; exact g5
    · rw [FM_i f8 (by decide), e7, gI_sI (SK_isF S6 (by decide +kernel))]; exact s6
    · rw [h.2, gI_sI (SK_isF S7 (by decide +kernel))]; exact s7
    · rw [FM_a f8 (by intro z; cases z), FM_a f7 (by intro z; cases z)]; exact t6 j hj
    · rw [← b3 u hu k]
      have cu : u = 0 ∨ u = 1 := by omega
      rcases cu with rfl | rfl
      · exact vcl_FMv S4 fx (by decide +kernel) (by decide) (by decide) (by decide) (by decide) (by decide) (by decide) (by decide) k
      · exact vcl_FMv S4 fx (by decide +kernel) (by decide) (by decide) (by decide) (by decide) (by decide) (by decide) (by decide) k
    · obtain ⟨y1, y2⟩ := b4 u hu
      have cu : u = 0 ∨ u = 1 ∨ u = 2 := by omega
      refine ⟨?_, fun q hq => ?_⟩
      · rw [← y1]
        rcases cu with rfl | rfl | rfl <;> exact FM_i fx (by decide)
      · rw [← y2 q hq]
        rcases cu with rfl | rfl | rfl <;> rw [FM_a fx (by decide)]
/-- a told object copied is told alike -/
theorem TE71_1_87 {a : Nat → Int32} (hS : SK w) (hTE : TE w 87 a) (h : PS X k 71 0 [.ref 1, .ref 87, pm_dead] [] w r w') : r = none ∧ FM tF1 tA1 w w' ∧ TE w' 1 a := by
  obtain ⟨⟨r1, r2, r3, r4, r5, r6, r7⟩, t1, t2, t3, t4, t5, t6, t7, t8⟩ := hTE
  obtain ⟨z1, z2, z3, z4, z5, z6, z7, z8, z9, z10⟩ := F71_1_87 (L := (a 2).toInt.toNat) hS (by rw [t1]; exact r1) (by rw [t1]; exact r2) (by rw [t2]; exact r3) (by rw [t2]; exact r4) (by rw [t3]; omega) (by omega) h
  rw [t1] at z9
  rw [t2] at z10
  refine ⟨z1, z2, ⟨r1, r2, r3, r4, r5, r6, r7⟩, z3.trans t1, z4.trans t2, z5.trans t3, z6.trans t4, z7.trans t5, fun j hj => ?_, fun u hu k hk => ?_, fun u hu => ?_⟩
  · show BY ((gA w' 4).getD j 0) _
    rw [z8 j hj]
    exact t6 j hj
  · exact (z9 u hu k).trans (t7 u hu k hk)
  · obtain ⟨y1, y2⟩ := z10 u hu
    obtain ⟨x1, x2⟩ := t8 u hu
    have ra := r7 u hu
    exact ⟨y1.trans x1, fun q hq => (y2 q (by omega)).trans (x2 q hq)⟩
theorem L71v_1_107 {w0 : pm_W} {cnt : Int32} {cN : Nat} (hS0 : SK w0) (hc : cnt.toInt = cN) (hc2 : cN ≤ 2) : ∀ (k : Nat) (w : pm_W) (t : Nat) (i2 : Int32), FM tF1 tA1 w0 w → gI w 1 2 = cnt → i2.toInt = t → t ≤ cN → (∀ u, u < t → ∀ k, vcl w (5 + 5 * u) k = vcl w0 (111 + 5 * u) k) → PS X k 71 18 [.ref 1, .ref 107, .int i2] [] w r w' → ∃ (k' : Nat) (w1 : pm_W), FM tF1 tA1 w0 w1 ∧ gI w1 1 2 = cnt ∧ gI w1 1 3 = gI w 1 3 ∧ (∀ u, u < cN → ∀ k, vcl w1 (5 + 5 * u) k = vcl w0 (111 + 5 * u) k) ∧ PS X k' 71 49 [.ref 1, .ref 107, .int 0] [] w1 r w' := by
  intro k
  induction k with
  | zero => intro w t i2 f0 gc h2 ht hv h; exact (PS_0 h).elim
  | succ k ih =>
    intro w t i2 f0 gc h2 ht hv h
    have hS := f0.2.2.2
    have h := U71_18 hS h
    rw [gc] at h
    by_cases c : cnt ≤ i2
    · rw [if_pos c] at h
      rw [Int32.le_iff_toInt_le, hc, h2] at c
      exact ⟨k, w, f0, gc, rfl, fun u hu => hv u (by omega), h⟩
    · rw [if_neg c] at h
      rw [Int32.le_iff_toInt_le, hc, h2] at c
      obtain ⟨_, _, r1, w2, q1, q2⟩ := h
      have e1 : gR w 1 0 = 2 := sk_fix hS (by decide +kernel) (by decide)
      have e2 : gR w 107 0 = 108 := sk_fix hS (by decide +kernel) (by decide)
      have k1 : gQ w 2 = [some 5, some 10] := by rw [SK_Q hS]; decide +kernel
      have k2 : gQ w 108 = [some 111, some 116] := by rw [SK_Q hS]; decide +kernel
      unfold qG at q1
      rw [e1, e2, k1, k2, i_nat h2] at q1
      have ct : t = 0 ∨ t = 1 := by omega
      have done : ∀ (fm : FM tF1 tA1 w w2), r1 = none → gI w2 1 2 = gI w 1 2 → gI w2 1 3 = gI w 1 3 → (∀ u, u < t + 1 → ∀ k, vcl w2 (5 + 5 * u) k = vcl w0 (111 + 5 * u) k) → ∃ (k' : Nat) (w1 : pm_W), FM tF1 tA1 w0 w1 ∧ gI w1 1 2 = cnt ∧ gI w1 1 3 = gI w 1 3 ∧ (∀ u, u < cN → ∀ k, vcl w1 (5 + 5 * u) k = vcl w0 (111 + 5 * u) k) ∧ PS X k' 71 49 [.ref 1, .ref 107, .int 0] [] w1 r w' := by
        intro fm er z2 z3 z4
        obtain ⟨k', w1, y1, y2, y3, y4⟩ := ih w2 (t + 1) (i2 + 1) (FM_trans f0 fm) (z2.trans gc) (by rw [zi_inc (n := 2) (by omega) (by omega), h2]; rfl) (by omega) z4 (q2 er fm.2.2.2)
        exact ⟨k', w1, y1, y2, y3.trans z3, y4⟩
      rcases ct with rfl | rfl
      · obtain ⟨a1, a2, a3⟩ := F56 hS (a := 5) (s := 111) (by decide +kernel) (by decide +kernel) (by decide) q1
        refine done (FM_mono a2 (by decide) (by decide)) a1 (FM_i a2 (by decide)) (FM_i a2 (by decide)) (fun u hu k => ?_)
        have eu : u = 0 := by omega
        subst eu
        rw [show 5 + 5 * 0 = 5 from rfl, show 111 + 5 * 0 = 111 from rfl, a3 k]
        exact vcl_FMv hS0 f0 (by decide +kernel) (by decide) (by decide) (by decide) (by decide) (by decide) (by decide) (by decide) k
      · obtain ⟨a1, a2, a3⟩ := F56 hS (a := 10) (s := 116) (by decide +kernel) (by decide +kernel) (by decide) q1
        refine done (FM_mono a2 (by decide) (by decide)) a1 (FM_i a2 (by decide)) (FM_i a2 (by decide)) (fun u hu k => ?_)
        have cu : u = 0 ∨ u = 1 := by omega
        rcases cu with rfl | rfl
        · rw [← hv 0 (by omega) k]
          exact vcl_FMv hS a2 (by decide +kernel) (by decide) (by decide) (by decide) (by decide) (by decide) (by decide) (by decide) k
        · rw [show 5 + 5 * 1 = 10 from rfl, show 111 + 5 * 1 = 116 from rfl, a3 k]
          exact vcl_FMv hS0 f0 (by decide +kernel) (by decide) (by decide) (by decide) (by decide) (by decide) (by decide) (by decide) k
theorem L71r_1_107 {w0 : pm_W} {cnt vc : Int32} {cN vN : Nat} (hS0 : SK w0) (hc : cnt.toInt = cN) (hc2 : cN ≤ 3) (hv2 : vN ≤ 2) : ∀ (k : Nat) (w : pm_W) (t : Nat) (i2 : Int32), FM tF1 tA1 w0 w → gI w 1 3 = cnt → gI w 1 2 = vc → i2.toInt = t → t ≤ cN → (∀ u, u < vN → ∀ k, vcl w (5 + 5 * u) k = vcl w0 (111 + 5 * u) k) → (∀ u, u < t → gI w (15 + 2 * u) 0 = gI w0 (121 + 2 * u) 0 ∧ ∀ q, q < 270 → (gA w (16 + 2 * u)).getD q 0 = (gA w0 (122 + 2 * u)).getD q 0) → PS X k 71 49 [.ref 1, .ref 107, .int i2] [] w r w' → ∃ (k' : Nat) (w1 : pm_W) (i2' : Int32), FM tF1 tA1 w0 w1 ∧ gI w1 1 2 = vc ∧ gI w1 1 3 = cnt ∧ (∀ u, u < vN → ∀ k, vcl w1 (5 + 5 * u) k = vcl w0 (111 + 5 * u) k) ∧ (∀ u, u < cN → gI w1 (15 + 2 * u) 0 = gI w0 (121 + 2 * u) 0 ∧ ∀ q, q < 270 → (gA w1 (16 + 2 * u)).getD q 0 = (gA w0 (122 + 2 * u)).getD q 0) ∧ (∀ w2 : pm_W, w2 = sI w1 1 5 (gI w1 107 5) → (cpI w2 (gR w2 107 4) (gR w2 1 4) 0 0 (gI w2 1 5) ∧ (∀ w3 : pm_W, w3 = cpS w2 (gR w2 107 4) (gR w2 1 4) 0 0 (gI w2 1 5) → (∀ w4 : pm_W, w4 = sI w3 1 6 (gI w3 107 6) → (∀ w5 : pm_W, w5 = sI w4 1 7 (gI w4 107 7) → (r = none ∧ w' = w5)))))) := by
  intro k
  induction k with
  | zero => intro w t i2 f0 gc gv h2 ht hvv hv h; exact (PS_0 h).elim
  | succ k ih =>
    intro w t i2 f0 gc gv h2 ht hvv hv h
    have hS := f0.2.2.2
    have h := U71_49 hS h
    rw [gc] at h
    by_cases c : cnt ≤ i2
    · rw [if_pos c] at h
      rw [Int32.le_iff_toInt_le, hc, h2] at c
      exact ⟨k, w, i2, f0, gv, gc, hvv, fun u hu => hv u (by omega), h⟩
    · rw [if_neg c] at h
      rw [Int32.le_iff_toInt_le, hc, h2] at c
      obtain ⟨_, _, r1, w2, q1, q2⟩ := h
      have e1 : gR w 1 1 = 3 := sk_fix hS (by decide +kernel) (by decide)
      have e2 : gR w 107 1 = 109 := sk_fix hS (by decide +kernel) (by decide)
      have k1 : gQ w 3 = [some 15, some 17, some 19] := by rw [SK_Q hS]; decide +kernel
      have k2 : gQ w 109 = [some 121, some 123, some 125] := by rw [SK_Q hS]; decide +kernel
      unfold qG at q1
      rw [e1, e2, k1, k2, i_nat h2] at q1
      have ct : t = 0 ∨ t = 1 ∨ t = 2 := by omega
      have vcl_x : ∀ {fs : List (Nat × Nat)} {as : List Nat} (fm : FM fs as w w2), (∀ p, p ∈ [(5, 0), (5, 1), (5, 2), (10, 0), (10, 1), (10, 2)] → p ∉ fs) → (∀ x, x ∈ [5 + 1, 5 + 2, 5 + 3, 5 + 4, 10 + 1, 10 + 2, 10 + 3, 10 + 4] → x ∉ as) → ∀ u, u < vN → ∀ k, vcl w2 (5 + 5 * u) k = vcl w0 (111 + 5 * u) k := by
        intro fs as fm h1 h2 u hu k
        rw [← hvv u hu k]
        have cu : u = 0 ∨ u = 1 := by omega
        rcases cu with rfl | rfl
        · exact vcl_FMv hS fm (by decide +kernel) (h1 _ (by decide)) (h1 _ (by decide)) (h1 _ (by decide)) (h2 _ (by decide)) (h2 _ (by decide)) (h2 _ (by decide)) (h2 _ (by decide)) k
        · exact vcl_FMv hS fm (by decide +kernel) (h1 _ (by decide)) (h1 _ (by decide)) (h1 _ (by decide)) (h2 _ (by decide)) (h2 _ (by decide)) (h2 _ (by decide)) (h2 _ (by decide)) k
      have done : ∀ (fm : FM tF1 tA1 w w2), r1 = none → gI w2 1 3 = gI w 1 3 → (∀ x : Nat, x = 0 → gI w2 1 2 = gI w 1 2 ∧ gA w2 4 = gA w 4 ∧ gI w2 1 5 = gI w 1 5 ∧ gI w2 1 6 = gI w 1 6 ∧ gI w2 1 7 = gI w 1 7) → (∀ u, u < vN → ∀ k, vcl w2 (5 + 5 * u) k = vcl w0 (111 + 5 * u) k) → (∀ u, u < t + 1 → gI w2 (15 + 2 * u) 0 = gI w0 (121 + 2 * u) 0 ∧ ∀ q, q < 270 → (gA w2 (16 + 2 * u)).getD q 0 = (gA w0 (122 + 2 * u)).getD q 0) → _ := fun fm er z1 z2 z3 z4 => ih w2 (t + 1) (i2 + 1) (FM_trans f0 fm) (z1.trans gc) ((z2 0 rfl).1.trans gv) (by rw [zi_inc (n := 3) (by omega) (by omega), h2]; rfl) (by omega) z3 z4 (q2 er fm.2.2.2)
      rcases ct with rfl | rfl | rfl
      · obtain ⟨a1, a2, a3, a4⟩ := F57 hS (a := 15) (s := 121) (by decide +kernel) (by decide +kernel) (by decide) q1
        refine done (FM_mono a2 (by decide) (by decide)) a1 (FM_i a2 (by decide)) (fun x hx => ⟨FM_i a2 (by decide), FM_a a2 (by decide), FM_i a2 (by decide), FM_i a2 (by decide), FM_i a2 (by decide)⟩) (fun u hu k => vcl_x a2 (by decide) (by decide) u hu k) (fun u hu => ?_)
        have cu : u = 0 := by omega
        subst cu
        · refine ⟨?_, fun q hq => ?_⟩
          · show gI w2 15 0 = gI w0 121 0
            rw [a3]; exact FM_i f0 (by decide)
          · show (gA w2 16).getD q 0 = (gA w0 122).getD q 0
            rw [a4 q hq, FM_a f0 (by decide)]
      · obtain ⟨a1, a2, a3, a4⟩ := F57 hS (a := 17) (s := 123) (by decide +kernel) (by decide +kernel) (by decide) q1
        refine done (FM_mono a2 (by decide) (by decide)) a1 (FM_i a2 (by decide)) (fun x hx => ⟨FM_i a2 (by decide), FM_a a2 (by decide), FM_i a2 (by decide), FM_i a2 (by decide), FM_i a2 (by decide)⟩) (fun u hu k => vcl_x a2 (by decide) (by decide) u hu k) (fun u hu => ?_)
        have cu : u = 0 ∨ u = 1 := by omega
        rcases cu with rfl | rfl
        · obtain ⟨y1, y2⟩ := hv 0 (by omega)
          refine ⟨?_, fun q hq => ?_⟩
          · rw [← y1]; exact FM_i a2 (by decide)
          · rw [← y2 q hq, FM_a a2 (by decide)]
        · refine ⟨?_, fun q hq => ?_⟩
          · show gI w2 17 0 = gI w0 123 0
            rw [a3]; exact FM_i f0 (by decide)
          · show (gA w2 18).getD q 0 = (gA w0 124).getD q 0
            rw [a4 q hq, FM_a f0 (by decide)]
      · obtain ⟨a1, a2, a3, a4⟩ := F57 hS (a := 19) (s := 125) (by decide +kernel) (by decide +kernel) (by decide) q1
        refine done (FM_mono a2 (by decide) (by decide)) a1 (FM_i a2 (by decide)) (fun x hx => ⟨FM_i a2 (by decide), FM_a a2 (by decide), FM_i a2 (by decide), FM_i a2 (by decide), FM_i a2 (by decide)⟩) (fun u hu k => vcl_x a2 (by decide) (by decide) u hu k) (fun u hu => ?_)
        have cu : u = 0 ∨ u = 1 ∨ u = 2 := by omega
        rcases cu with rfl | rfl | rfl
        · obtain ⟨y1, y2⟩ := hv 0 (by omega)
          refine ⟨?_, fun q hq => ?_⟩
          · rw [← y1]; exact FM_i a2 (by decide)
          · rw [← y2 q hq, FM_a a2 (by decide)]
        · obtain ⟨y1, y2⟩ := hv 1 (by omega)
          refine ⟨?_, fun q hq => ?_⟩
          · rw [← y1]; exact FM_i a2 (by decide)
          · rw [← y2 q hq, FM_a a2 (by decide)]
        · refine ⟨?_, fun q hq => ?_⟩
          · show gI w2 19 0 = gI w0 125 0
            rw [a3]; exact FM_i f0 (by decide)
          · show (gA w2 20).getD q 0 = (gA w0 126).getD q 0
            rw [a4 q hq, FM_a f0 (by decide)]
theorem F71_1_107 {L : Nat} (hS : SK w) (h0 : 0 ≤ (gI w 107 2).toInt) (h2 : (gI w 107 2).toInt ≤ 2) (h1 : 0 ≤ (gI w 107 3).toInt) (h3 : (gI w 107 3).toInt ≤ 3) (hl : (gI w 107 5).toInt = L) (h6 : L ≤ 600) (h : PS X k 71 0 [.ref 1, .ref 107, pm_dead] [] w r w') : r = none ∧ FM tF1 tA1 w w' ∧ gI w' 1 2 = gI w 107 2 ∧ gI w' 1 3 = gI w 107 3 ∧ gI w' 1 5 = gI w 107 5 ∧ gI w' 1 6 = gI w 107 6 ∧ gI w' 1 7 = gI w 107 7 ∧ (∀ j, j < L → (gA w' 4).getD j 0 = (gA w 110).getD j 0) ∧ (∀ u, u < (gI w 107 2).toInt.toNat → ∀ k, vcl w' (5 + 5 * u) k = vcl w (111 + 5 * u) k) ∧ (∀ u, u < (gI w 107 3).toInt.toNat → gI w' (15 + 2 * u) 0 = gI w (121 + 2 * u) 0 ∧ ∀ q, q < 270 → (gA w' (16 + 2 * u)).getD q 0 = (gA w (122 + 2 * u)).getD q 0) := by
  cases k with
  | zero => exact (PS_0 h).elim
  | succ k =>
    have h := U71_0 hS h _ rfl _ rfl
    have fa : FM tF1 tA1 w (sI w 1 2 (gI w 107 2)) := FM_sI hS (by decide)
    obtain ⟨w2, e2⟩ : ∃ w2, w2 = sI (sI w 1 2 (gI w 107 2)) 1 3 (gI (sI w 1 2 (gI w 107 2)) 107 3) := ⟨_, rfl⟩
    rw [← e2] at h
    have fb : FM tF1 tA1 w w2 := FM_trans fa (by rw [e2]; exact FM_sI fa.2.2.2 (by decide))
    have g2 : gI w2 1 2 = gI w 107 2 := by rw [e2, gI_sI_ne (by decide), gI_sI (SK_isF hS (by decide +kernel))]
    have g3 : gI w2 1 3 = gI w 107 3 := by rw [e2, gI_sI (SK_isF fa.2.2.2 (by decide +kernel)), gI_sI_ne (by decide)]
    obtain ⟨k3, w3, f3, a1, a2, a3, h⟩ := L71v_1_107 (cN := (gI w 107 2).toInt.toNat) hS (by omega) (by omega) _ w2 0 0 fb g2 z32 (Nat.zero_le _) (fun u hu => absurd hu (Nat.not_lt_zero u)) h
    obtain ⟨k4, w4, i4, f4, b1, b2, b3, b4, h⟩ := L71r_1_107 (cN := (gI w 107 3).toInt.toNat) (vN := (gI w 107 2).toInt.toNat) hS (by omega) (by omega) (by omega) _ w3 0 0 f3 (a2.trans g3) a1 z32 (Nat.zero_le _) a3 (fun u hu => absurd hu (Nat.not_lt_zero u)) h
    have S4 := f4.2.2.2
    obtain ⟨hc, h⟩ := h _ rfl
    have h := h _ rfl _ rfl _ rfl
    obtain ⟨w5, e5⟩ : ∃ w5, w5 = sI w4 1 5 (gI w4 107 5) := ⟨_, rfl⟩
    rw [← e5] at h hc
    have f5 : FM [(1, 5)] [] w4 w5 := by rw [e5]; exact FM_sI S4 (by decide)
    have S5 := f5.2.2.2
    have g5 : gI w5 1 5 = gI w 107 5 := by rw [e5, gI_sI (SK_isF S4 (by decide +kernel))]; exact FM_i f4 (by decide)
    have r1 : gR w5 107 4 = 110 := sk_fix S5 (by decide +kernel) (by decide)
    have r2 : gR w5 1 4 = 4 := sk_fix S5 (by decide +kernel) (by decide)
    rw [r1, r2, g5] at h hc
    obtain ⟨w6, e6⟩ : ∃ w6, w6 = cpS w5 110 4 0 0 (gI w 107 5) := ⟨_, rfl⟩
    rw [← e6] at h
    have f6 : FM [] [4] w5 w6 := by rw [e6]; exact FM_cpS hc S5 (by decide)
    have S6 := f6.2.2.2
    have t6 : ∀ j, j < L → (gA w6 4).getD j 0 = (gA w 110).getD j 0 := by
      intro j hj
      rw [e6, cpS_A hc (SK_isA S5 (by decide +kernel)), hl, z32, cpy_getF (by rw [SK_len S5 (a := 110) (n := 600) (by decide +kernel) (by decide)]; show 0 + L ≤ 600; omega) (by rw [SK_len S5 (a := 4) (n := 600) (by decide +kernel) (by decide)]; show 0 + L ≤ 600; omega), if_pos (by show 0 ≤ j ∧ j < 0 + L; omega)]
      show (gA w5 110).getD (0 + (j - 0)) 0 = _
      rw [show 0 + (j - 0) = j by omega, FM_a f5 (by intro z; cases z), FM_a f4 (by decide)]
    obtain ⟨w7, e7⟩ : ∃ w7, w7 = sI w6 1 6 (gI w6 107 6) := ⟨_, rfl⟩
    rw [← e7] at h
    have f7 : FM [(1, 6)] [] w6 w7 := by rw [e7]; exact FM_sI S6 (by decide)
    have S7 := f7.2.2.2
    have f8 : FM [(1, 7)] [] w7 w' := by rw [h.2]; exact FM_sI S7 (by decide)
    have s6 : gI w6 107 6 = gI w 107 6 := by rw [FM_i f6 (by intro z; cases z), FM_i f5 (by decide), FM_i f4 (by decide)]
    have s7 : gI w7 107 7 = gI w 107 7 := by rw [FM_i f7 (by decide), FM_i f6 (by intro z; cases z), FM_i f5 (by decide), FM_i f4 (by decide)]
    have fx : FM [(1, 5), (1, 6), (1, 7)] [4] w4 w' := FM_trans (FM_mono f5 (by decide) (by decide)) (FM_trans (FM_mono f6 (by intro x hx; cases hx) (by decide)) (FM_trans (FM_mono f7 (by decide) (by decide)) (FM_mono f8 (by decide) (by decide))))
    refine ⟨h.1, FM_trans f4 (FM_mono fx (by decide) (by decide)), (FM_i fx (by decide)).trans b1, (FM_i fx (by decide)).trans b2, ?_, ?_, ?_, fun j hj => ?_, fun u hu k => ?_, fun u hu => ?_⟩
    · rw [FM_i f8 (by decide), FM_i f7 (by decide), FM_i f6 (by intro z; cases z)]; exact g5
    · rw [FM_i f8 (by decide), e7, gI_sI (SK_isF S6 (by decide +kernel))]; exact s6
    · rw [h.2, gI_sI (SK_isF S7 (by decide +kernel))]; exact s7
    · rw [FM_a f8 (by intro z; cases z), FM_a f7 (by intro z; cases z)]; exact t6 j hj
    · rw [← b3 u hu k]
      have cu : u = 0 ∨ u = 1 := by omega
      rcases cu with rfl | rfl
      · exact vcl_FMv S4 fx (by decide +kernel) (by decide) (by decide) (by decide) (by decide) (by decide) (by decide) (by decide) k
      · exact vcl_FMv S4 fx (by decide +kernel) (by decide) (by decide) (by decide) (by decide) (by decide) (by decide) (by decide) k
    · obtain ⟨y1, y2⟩ := b4 u hu
      have cu : u = 0 ∨ u = 1 ∨ u = 2 := by omega
      refine ⟨?_, fun q hq => ?_⟩
      · rw [← y1]
        rcases cu with rfl | rfl | rfl <;> exact FM_i fx (by decide)
      · rw [← y2 q hq]
        rcases cu with rfl | rfl | rfl <;> rw [FM_a fx (by decide)]
/-- a told object copied is told alike -/
theorem TE71_1_107 {a : Nat → Int32} (hS : SK w) (hTE : TE w 107 a) (h : PS X k 71 0 [.ref 1, .ref 107, pm_dead] [] w r w') : r = none ∧ FM tF1 tA1 w w' ∧ TE w' 1 a := by
  obtain ⟨⟨r1, r2, r3, r4, r5, r6, r7⟩, t1, t2, t3, t4, t5, t6, t7, t8⟩ := hTE
  obtain ⟨z1, z2, z3, z4, z5, z6, z7, z8, z9, z10⟩ := F71_1_107 (L := (a 2).toInt.toNat) hS (by rw [t1]; exact r1) (by rw [t1]; exact r2) (by rw [t2]; exact r3) (by rw [t2]; exact r4) (by rw [t3]; omega) (by omega) h
  rw [t1] at z9
  rw [t2] at z10
  refine ⟨z1, z2, ⟨r1, r2, r3, r4, r5, r6, r7⟩, z3.trans t1, z4.trans t2, z5.trans t3, z6.trans t4, z7.trans t5, fun j hj => ?_, fun u hu k hk => ?_, fun u hu => ?_⟩
  · show BY ((gA w' 4).getD j 0) _
    rw [z8 j hj]
    exact t6 j hj
  · exact (z9 u hu k).trans (t7 u hu k hk)
  · obtain ⟨y1, y2⟩ := z10 u hu
    obtain ⟨x1, x2⟩ := t8 u hu
    have ra := r7 u hu
    exact ⟨y1.trans x1, fun q hq => (y2 q (by omega)).trans (x2 q hq)⟩
theorem L71v_1_127 {w0 : pm_W} {cnt : Int32} {cN : Nat} (hS0 : SK w0) (hc : cnt.toInt = cN) (hc2 : cN ≤ 2) : ∀ (k : Nat) (w : pm_W) (t : Nat) (i2 : Int32), FM tF1 tA1 w0 w → gI w 1 2 = cnt → i2.toInt = t → t ≤ cN → (∀ u, u < t → ∀ k, vcl w (5 + 5 * u) k = vcl w0 (131 + 5 * u) k) → PS X k 71 18 [.ref 1, .ref 127, .int i2] [] w r w' → ∃ (k' : Nat) (w1 : pm_W), FM tF1 tA1 w0 w1 ∧ gI w1 1 2 = cnt ∧ gI w1 1 3 = gI w 1 3 ∧ (∀ u, u < cN → ∀ k, vcl w1 (5 + 5 * u) k = vcl w0 (131 + 5 * u) k) ∧ PS X k' 71 49 [.ref 1, .ref 127, .int 0] [] w1 r w' := by
  intro k
  induction k with
  | zero => intro w t i2 f0 gc h2 ht hv h; exact (PS_0 h).elim
  | succ k ih =>
    intro w t i2 f0 gc h2 ht hv h
    have hS := f0.2.2.2
    have h := U71_18 hS h
    rw [gc] at h
    by_cases c : cnt ≤ i2
    · rw [if_pos c] at h
      rw [Int32.le_iff_toInt_le, hc, h2] at c
      exact ⟨k, w, f0, gc, rfl, fun u hu => hv u (by omega), h⟩
    · rw [if_neg c] at h
      rw [Int32.le_iff_toInt_le, hc, h2] at c
      obtain ⟨_, _, r1, w2, q1, q2⟩ := h
      have e1 : gR w 1 0 = 2 := sk_fix hS (by decide +kernel) (by decide)
      have e2 : gR w 127 0 = 128 := sk_fix hS (by decide +kernel) (by decide)
      have k1 : gQ w 2 = [some 5, some 10] := by rw [SK_Q hS]; decide +kernel
      have k2 : gQ w 128 = [some 131, some 136] := by rw [SK_Q hS]; decide +kernel
      unfold qG at q1
      rw [e1, e2, k1, k2, i_nat h2] at q1
      have ct : t = 0 ∨ t = 1 := by omega
      have done : ∀ (fm : FM tF1 tA1 w w2), r1 = none → gI w2 1 2 = gI w 1 2 → gI w2 1 3 = gI w 1 3 → (∀ u, u < t + 1 → ∀ k, vcl w2 (5 + 5 * u) k = vcl w0 (131 + 5 * u) k) → ∃ (k' : Nat) (w1 : pm_W), FM tF1 tA1 w0 w1 ∧ gI w1 1 2 = cnt ∧ gI w1 1 3 = gI w 1 3 ∧ (∀ u, u < cN → ∀ k, vcl w1 (5 + 5 * u) k = vcl w0 (131 + 5 * u) k) ∧ PS X k' 71 49 [.ref 1, .ref 127, .int 0] [] w1 r w' := by
        intro fm er z2 z3 z4
        obtain ⟨k', w1, y1, y2, y3, y4⟩ := ih w2 (t + 1) (i2 + 1) (FM_trans f0 fm) (z2.trans gc) (by rw [zi_inc (n := 2) (by omega) (by omega), h2]; rfl) (by omega) z4 (q2 er fm.2.2.2)
        exact ⟨k', w1, y1, y2, y3.trans z3, y4⟩
      rcases ct with rfl | rfl
      · obtain ⟨a1, a2, a3⟩ := F56 hS (a := 5) (s := 131) (by decide +kernel) (by decide +kernel) (by decide) q1
        refine done (FM_mono a2 (by decide) (by decide)) a1 (FM_i a2 (by decide)) (FM_i a2 (by decide)) (fun u hu k => ?_)
        have eu : u = 0 := by omega
        subst eu
        rw [show 5 + 5 * 0 = 5 from rfl, show 131 + 5 * 0 = 131 from rfl, a3 k]
        exact vcl_FMv hS0 f0 (by decide +kernel) (by decide) (by decide) (by decide) (by decide) (by decide) (by decide) (by decide) k
      · obtain ⟨a1, a2, a3⟩ := F56 hS (a := 10) (s := 136) (by decide +kernel) (by decide +kernel) (by decide) q1
        refine done (FM_mono a2 (by decide) (by decide)) a1 (FM_i a2 (by decide)) (FM_i a2 (by decide)) (fun u hu k => ?_)
        have cu : u = 0 ∨ u = 1 := by omega
        rcases cu with rfl | rfl
        · rw [← hv 0 (by omega) k]
          exact vcl_FMv hS a2 (by decide +kernel) (by decide) (by decide) (by decide) (by decide) (by decide) (by decide) (by decide) k
        · rw [show 5 + 5 * 1 = 10 from rfl, show 131 + 5 * 1 = 136 from rfl, a3 k]
          exact vcl_FMv hS0 f0 (by decide +kernel) (by decide) (by decide) (by decide) (by decide) (by decide) (by decide) (by decide) k
theorem L71r_1_127 {w0 : pm_W} {cnt vc : Int32} {cN vN : Nat} (hS0 : SK w0) (hc : cnt.toInt = cN) (hc2 : cN ≤ 3) (hv2 : vN ≤ 2) : ∀ (k : Nat) (w : pm_W) (t : Nat) (i2 : Int32), FM tF1 tA1 w0 w → gI w 1 3 = cnt → gI w 1 2 = vc → i2.toInt = t → t ≤ cN → (∀ u, u < vN → ∀ k, vcl w (5 + 5 * u) k = vcl w0 (131 + 5 * u) k) → (∀ u, u < t → gI w (15 + 2 * u) 0 = gI w0 (141 + 2 * u) 0 ∧ ∀ q, q < 270 → (gA w (16 + 2 * u)).getD q 0 = (gA w0 (142 + 2 * u)).getD q 0) → PS X k 71 49 [.ref 1, .ref 127, .int i2] [] w r w' → ∃ (k' : Nat) (w1 : pm_W) (i2' : Int32), FM tF1 tA1 w0 w1 ∧ gI w1 1 2 = vc ∧ gI w1 1 3 = cnt ∧ (∀ u, u < vN → ∀ k, vcl w1 (5 + 5 * u) k = vcl w0 (131 + 5 * u) k) ∧ (∀ u, u < cN → gI w1 (15 + 2 * u) 0 = gI w0 (141 + 2 * u) 0 ∧ ∀ q, q < 270 → (gA w1 (16 + 2 * u)).getD q 0 = (gA w0 (142 + 2 * u)).getD q 0) ∧ (∀ w2 : pm_W, w2 = sI w1 1 5 (gI w1 127 5) → (cpI w2 (gR w2 127 4) (gR w2 1 4) 0 0 (gI w2 1 5) ∧ (∀ w3 : pm_W, w3 = cpS w2 (gR w2 127 4) (gR w2 1 4) 0 0 (gI w2 1 5) → (∀ w4 : pm_W, w4 = sI w3 1 6 (gI w3 127 6) → (∀ w5 : pm_W, w5 = sI w4 1 7 (gI w4 127 7) → (r = none ∧ w' = w5)))))) := by
  intro k
  induction k with
  | zero => intro w t i2 f0 gc gv h2 ht hvv hv h; exact (PS_0 h).elim
  | succ k ih =>
    intro w t i2 f0 gc gv h2 ht hvv hv h
    have hS := f0.2.2.2
    have h := U71_49 hS h
    rw [gc] at h
    by_cases c : cnt ≤ i2
    · rw [if_pos c] at h
      rw [Int32.le_iff_toInt_le, hc, h2] at c
      exact ⟨k, w, i2, f0, gv, gc, hvv, fun u hu => hv u (by omega), h⟩
    · rw [if_neg c] at h
      rw [Int32.le_iff_toInt_le, hc, h2] at c
      obtain ⟨_, _, r1, w2, q1, q2⟩ := h
      have e1 : gR w 1 1 = 3 := sk_fix hS (by decide +kernel) (by decide)
      have e2 : gR w 127 1 = 129 := sk_fix hS (by decide +kernel) (by decide)
      have k1 : gQ w 3 = [some 15, some 17, some 19] := by rw [SK_Q hS]; decide +kernel
      have k2 : gQ w 129 = [some 141, some 143, some 145] := by rw [SK_Q hS]; decide +kernel
      unfold qG at q1
      rw [e1, e2, k1, k2, i_nat h2] at q1
      have ct : t = 0 ∨ t = 1 ∨ t = 2 := by omega
      have vcl_x : ∀ {fs : List (Nat × Nat)} {as : List Nat} (fm : FM fs as w w2), (∀ p, p ∈ [(5, 0), (5, 1), (5, 2), (10, 0), (10, 1), (10, 2)] → p ∉ fs) → (∀ x, x ∈ [5 + 1, 5 + 2, 5 + 3, 5 + 4, 10 + 1, 10 + 2, 10 + 3, 10 + 4] → x ∉ as) → ∀ u, u < vN → ∀ k, vcl w2 (5 + 5 * u) k = vcl w0 (131 + 5 * u) k := by
        intro fs as fm h1 h2 u hu k
        rw [← hvv u hu k]
        have cu : u = 0 ∨ u = 1 := by omega
        rcases cu with rfl | rfl
        · exact vcl_FMv hS fm (by decide +kernel) (h1 _ (by decide)) (h1 _ (by decide)) (h1 _ (by decide)) (h2 _ (by decide)) (h2 _ (by decide)) (h2 _ (by decide)) (h2 _ (by decide)) k
        · exact vcl_FMv hS fm (by decide +kernel) (h1 _ (by decide)) (h1 _ (by decide)) (h1 _ (by decide)) (h2 _ (by decide)) (h2 _ (by decide)) (h2 _ (by decide)) (h2 _ (by decide)) k
      have done : ∀ (fm : FM tF1 tA1 w w2), r1 = none → gI w2 1 3 = gI w 1 3 → (∀ x : Nat, x = 0 → gI w2 1 2 = gI w 1 2 ∧ gA w2 4 = gA w 4 ∧ gI w2 1 5 = gI w 1 5 ∧ gI w2 1 6 = gI w 1 6 ∧ gI w2 1 7 = gI w 1 7) → (∀ u, u < vN → ∀ k, vcl w2 (5 + 5 * u) k = vcl w0 (131 + 5 * u) k) → (∀ u, u < t + 1 → gI w2 (15 + 2 * u) 0 = gI w0 (141 + 2 * u) 0 ∧ ∀ q, q < 270 → (gA w2 (16 + 2 * u)).getD q 0 = (gA w0 (142 + 2 * u)).getD q 0) → _ := fun fm er z1 z2 z3 z4 => ih w2 (t + 1) (i2 + 1) (FM_trans f0 fm) (z1.trans gc) ((z2 0 rfl).1.trans gv) (by rw [zi_inc (n := 3) (by omega) (by omega), h2]; rfl) (by omega) z3 z4 (q2 er fm.2.2.2)
      rcases ct with rfl | rfl | rfl
      · obtain ⟨a1, a2, a3, a4⟩ := F57 hS (a := 15) (s := 141) (by decide +kernel) (by decide +kernel) (by decide) q1
        refine done (FM_mono a2 (by decide) (by decide)) a1 (FM_i a2 (by decide)) (fun x hx => ⟨FM_i a2 (by decide), FM_a a2 (by decide), FM_i a2 (by decide), FM_i a2 (by decide), FM_i a2 (by decide)⟩) (fun u hu k => vcl_x a2 (by decide) (by decide) u hu k) (fun u hu => ?_)
        have cu : u = 0 := by omega
        subst cu
        · refine ⟨?_, fun q hq => ?_⟩
          · show gI w2 15 0 = gI w0 141 0
            rw [a3]; exact FM_i f0 (by decide)
          · show (gA w2 16).getD q 0 = (gA w0 142).getD q 0
            rw [a4 q hq, FM_a f0 (by decide)]
      · obtain ⟨a1, a2, a3, a4⟩ := F57 hS (a := 17) (s := 143) (by decide +kernel) (by decide +kernel) (by decide) q1
        refine done (FM_mono a2 (by decide) (by decide)) a1 (FM_i a2 (by decide)) (fun x hx => ⟨FM_i a2 (by decide), FM_a a2 (by decide), FM_i a2 (by decide), FM_i a2 (by decide), FM_i a2 (by decide)⟩) (fun u hu k => vcl_x a2 (by decide) (by decide) u hu k) (fun u hu => ?_)
        have cu : u = 0 ∨ u = 1 := by omega
        rcases cu with rfl | rfl
        · obtain ⟨y1, y2⟩ := hv 0 (by omega)
          refine ⟨?_, fun q hq => ?_⟩
          · rw [← y1]; exact FM_i a2 (by decide)
          · rw [← y2 q hq, FM_a a2 (by decide)]
        · refine ⟨?_, fun q hq => ?_⟩
          · show gI w2 17 0 = gI w0 143 0
            rw [a3]; exact FM_i f0 (by decide)
          · show (gA w2 18).getD q 0 = (gA w0 144).getD q 0
            rw [a4 q hq, FM_a f0 (by decide)]
      · obtain ⟨a1, a2, a3, a4⟩ := F57 hS (a := 19) (s := 145) (by decide +kernel) (by decide +kernel) (by decide) q1
        refine done (FM_mono a2 (by decide) (by decide)) a1 (FM_i a2 (by decide)) (fun x hx => ⟨FM_i a2 (by decide), FM_a a2 (by decide), FM_i a2 (by decide), FM_i a2 (by decide), FM_i a2 (by decide)⟩) (fun u hu k => vcl_x a2 (by decide) (by decide) u hu k) (fun u hu => ?_)
        have cu : u = 0 ∨ u = 1 ∨ u = 2 := by omega
        rcases cu with rfl | rfl | rfl
        · obtain ⟨y1, y2⟩ := hv 0 (by omega)
          refine ⟨?_, fun q hq => ?_⟩
          · rw [← y1]; exact FM_i a2 (by decide)
          · rw [← y2 q hq, FM_a a2 (by decide)]
        · obtain ⟨y1, y2⟩ := hv 1 (by omega)
          refine ⟨?_, fun q hq => ?_⟩
          · rw [← y1]; exact FM_i a2 (by decide)
          · rw [← y2 q hq, FM_a a2 (by decide)]
        · refine ⟨?_, fun q hq => ?_⟩
          · show gI w2 19 0 = gI w0 145 0
            rw [a3]; exact FM_i f0 (by decide)
          · show (gA w2 20).getD q 0 = (gA w0 146).getD q 0
            rw [a4 q hq, FM_a f0 (by decide)]
theorem F71_1_127 {L : Nat} (hS : SK w) (h0 : 0 ≤ (gI w 127 2).toInt) (h2 : (gI w 127 2).toInt ≤ 2) (h1 : 0 ≤ (gI w 127 3).toInt) (h3 : (gI w 127 3).toInt ≤ 3) (hl : (gI w 127 5).toInt = L) (h6 : L ≤ 600) (h : PS X k 71 0 [.ref 1, .ref 127, pm_dead] [] w r w') : r = none ∧ FM tF1 tA1 w w' ∧ gI w' 1 2 = gI w 127 2 ∧ gI w' 1 3 = gI w 127 3 ∧ gI w' 1 5 = gI w 127 5 ∧ gI w' 1 6 = gI w 127 6 ∧ gI w' 1 7 = gI w 127 7 ∧ (∀ j, j < L → (gA w' 4).getD j 0 = (gA w 130).getD j 0) ∧ (∀ u, u < (gI w 127 2).toInt.toNat → ∀ k, vcl w' (5 + 5 * u) k = vcl w (131 + 5 * u) k) ∧ (∀ u, u < (gI w 127 3).toInt.toNat → gI w' (15 + 2 * u) 0 = gI w (141 + 2 * u) 0 ∧ ∀ q, q < 270 → (gA w' (16 + 2 * u)).getD q 0 = (gA w (142 + 2 * u)).getD q 0) := by
  cases k with
  | zero => exact (PS_0 h).elim
  | succ k =>
    have h := U71_0 hS h _ rfl _ rfl
    have fa : FM tF1 tA1 w (sI w 1 2 (gI w 127 2)) := FM_sI hS (by decide)
    obtain ⟨w2, e2⟩ : ∃ w2, w2 = sI (sI w 1 2 (gI w 127 2)) 1 3 (gI (sI w 1 2 (gI w 127 2)) 127 3) := ⟨_, rfl⟩
    rw [← e2] at h
    have fb : FM tF1 tA1 w w2 := FM_trans fa (by rw [e2]; exact FM_sI fa.2.2.2 (by decide))
    have g2 : gI w2 1 2 = gI w 127 2 := by rw [e2, gI_sI_ne (by decide), gI_sI (SK_isF hS (by decide +kernel))]
    have g3 : gI w2 1 3 = gI w 127 3 := by rw [e2, gI_sI (SK_isF fa.2.2.2 (by decide +kernel)), gI_sI_ne (by decide)]
    obtain ⟨k3, w3, f3, a1, a2, a3, h⟩ := L71v_1_127 (cN := (gI w 127 2).toInt.toNat) hS (by omega) (by omega) _ w2 0 0 fb g2 z32 (Nat.zero_le _) (fun u hu => absurd hu (Nat.not_lt_zero u)) h
    obtain ⟨k4, w4, i4, f4, b1, b2, b3, b4, h⟩ := L71r_1_127 (cN := (gI w 127 3).toInt.toNat) (vN := (gI w 127 2).toInt.toNat) hS (by omega) (by omega) (by omega) _ w3 0 0 f3 (a2.trans g3) a1 z32 (Nat.zero_le _) a3 (fun u hu => absurd hu (Nat.not_lt_zero u)) h
    have S4 := f4.2.2.2
    obtain ⟨hc, h⟩ := h _ rfl
    have h := h _ rfl _ rfl _ rfl
    obtain ⟨w5, e5⟩ : ∃ w5, w5 = sI w4 1 5 (gI w4 127 5) := ⟨_, rfl⟩
    rw [← e5] at h hc
    have f5 : FM [(1, 5)] [] w4 w5 := by rw [e5]; exact FM_sI S4 (by decide)
    have S5 := f5.2.2.2
    have g5 : gI w5 1 5 = gI w 127 5 := by rw [e5, gI_sI (SK_isF S4 (by decide +kernel))]; exact FM_i f4 (by decide)
    have r1 : gR w5 127 4 = 130 := sk_fix S5 (by decide +kernel) (by decide)
    have r2 : gR w5 1 4 = 4 := sk_fix S5 (by decide +kernel) (by decide)
    rw [r1, r2, g5] at h hc
    obtain ⟨w6, e6⟩ : ∃ w6, w6 = cpS w5 130 4 0 0 (gI w 127 5) := ⟨_, rfl⟩
    rw [← e6] at h
    have f6 : FM [] [4] w5 w6 := by rw [e6]; exact FM_cpS hc S5 (by decide)
    have S6 := f6.2.2.2
    have t6 : ∀ j, j < L → (gA w6 4).getD j 0 = (gA w 130).getD j 0 := by
      intro j hj
      rw [e6, cpS_A hc (SK_isA S5 (by decide +kernel)), hl, z32, cpy_getF (by rw [SK_len S5 (a := 130) (n := 600) (by decide +kernel) (by decide)]; show 0 + L ≤ 600; omega) (by rw [SK_len S5 (a := 4) (n := 600) (by decide +kernel) (by decide)]; show 0 + L ≤ 600; omega), if_pos (by show 0 ≤ j ∧ j < 0 + L; omega)]
      show (gA w5 130).getD (0 + (j - 0)) 0 = _
      rw [show 0 + (j - 0) = j by omega, FM_a f5 (by intro z; cases z), FM_a f4 (by decide)]
    obtain ⟨w7, e7⟩ : ∃ w7, w7 = sI w6 1 6 (gI w6 127 6) := ⟨_, rfl⟩
    rw [← e7] at h
    have f7 : FM [(1, 6)] [] w6 w7 := by rw [e7]; exact FM_sI S6 (by decide)
    have S7 := f7.2.2.2
    have f8 : FM [(1, 7)] [] w7 w' := by rw [h.2]; exact FM_sI S7 (by decide)
    have s6 : gI w6 127 6 = gI w 127 6 := by rw [FM_i f6 (by intro z; cases z), FM_i f5 (by decide), FM_i f4 (by decide)]
    have s7 : gI w7 127 7 = gI w 127 7 := by rw [FM_i f7 (by decide), FM_i f6 (by intro z; cases z), FM_i f5 (by decide), FM_i f4 (by decide)]
    have fx : FM [(1, 5), (1, 6), (1, 7)] [4] w4 w' := FM_trans (FM_mono f5 (by decide) (by decide)) (FM_trans (FM_mono f6 (by intro x hx; cases hx) (by decide)) (FM_trans (FM_mono f7 (by decide) (by decide)) (FM_mono f8 (by decide) (by decide))))
    refine ⟨h.1, FM_trans f4 (FM_mono fx (by decide) (by decide)), (FM_i fx (by decide)).trans b1, (FM_i fx (by decide)).trans b2, ?_, ?_, ?_, fun j hj => ?_, fun u hu k => ?_, fun u hu => ?_⟩
    · rw [FM_i f8 (by decide), FM_i f7 (by decide), FM_i f6 (by intro z; cases z)]; exact g5
    · rw [FM_i f8 (by decide), e7, gI_sI (SK_isF S6 (by decide +kernel))]; exact s6
    · rw [h.2, gI_sI (SK_isF S7 (by decide +kernel))]; exact s7
    · rw [FM_a f8 (by intro z; cases z), FM_a f7 (by intro z; cases z)]; exact t6 j hj
    · rw [← b3 u hu k]
      have cu : u = 0 ∨ u = 1 := by omega
      rcases cu with rfl | rfl
      · exact vcl_FMv S4 fx (by decide +kernel) (by decide) (by decide) (by decide) (by decide) (by decide) (by decide) (by decide) k
      · exact vcl_FMv S4 fx (by decide +kernel) (by decide) (by decide) (by decide) (by decide) (by decide) (by decide) (by decide) k
    · obtain ⟨y1, y2⟩ := b4 u hu
      have cu : u = 0 ∨ u = 1 ∨ u = 2 := by omega
      refine ⟨?_, fun q hq => ?_⟩
      · rw [← y1]
        rcases cu with rfl | rfl | rfl <;> exact FM_i fx (by decide)
      · rw [← y2 q hq]
        rcases cu with rfl | rfl | rfl <;> rw [FM_a fx (by decide)]
/-- a told object copied is told alike -/
theorem TE71_1_127 {a : Nat → Int32} (hS : SK w) (hTE : TE w 127 a) (h : PS X k 71 0 [.ref 1, .ref 127, pm_dead] [] w r w') : r = none ∧ FM tF1 tA1 w w' ∧ TE w' 1 a := by
  obtain ⟨⟨r1, r2, r3, r4, r5, r6, r7⟩, t1, t2, t3, t4, t5, t6, t7, t8⟩ := hTE
  obtain ⟨z1, z2, z3, z4, z5, z6, z7, z8, z9, z10⟩ := F71_1_127 (L := (a 2).toInt.toNat) hS (by rw [t1]; exact r1) (by rw [t1]; exact r2) (by rw [t2]; exact r3) (by rw [t2]; exact r4) (by rw [t3]; omega) (by omega) h
  rw [t1] at z9
  rw [t2] at z10
  refine ⟨z1, z2, ⟨r1, r2, r3, r4, r5, r6, r7⟩, z3.trans t1, z4.trans t2, z5.trans t3, z6.trans t4, z7.trans t5, fun j hj => ?_, fun u hu k hk => ?_, fun u hu => ?_⟩
  · show BY ((gA w' 4).getD j 0) _
    rw [z8 j hj]
    exact t6 j hj
  · exact (z9 u hu k).trans (t7 u hu k hk)
  · obtain ⟨y1, y2⟩ := z10 u hu
    obtain ⟨x1, x2⟩ := t8 u hu
    have ra := r7 u hu
    exact ⟨y1.trans x1, fun q hq => (y2 q (by omega)).trans (x2 q hq)⟩
end GR
