/-! ===== villages, rows copied; what a text is kept as (the class) ===== -/
section GN
variable {X : pm_X} {k : Nat} {w0 w w1 w' : pm_W} {r : Option Value} {p p1 p2 p3 f0 p0 f q : Int32} {bs cs : Nat → Int32} {n i v j m a s T : Nat} {b : Bool} {c : Nat → Int32} {g : Int}
def sk_q (a : Nat) : List (Option Nat) := match sk0[a]? with
  | some (.inl (_, .inr (.inr q))) => q
  | _ => []
theorem SK_Q (hS : SK w) : gQ w a = sk_q a := by
  unfold gQ sk_q
  cases hw : w[a]? with
  | none =>
    have e : sk0[a]? = none := by rw [← show w.map sk_e = sk0 from hS, List.getElem?_map, hw]; rfl
    rw [e]
  | some q =>
    rw [SK_at hS hw]
    cases q with
    | inr q => rfl
    | inl q =>
      obtain ⟨t, q⟩ := q
      rcases q with q | q | q <;> rfl
/-- a village stands at v, its arrays behind it -/
def okV (v : Nat) : Bool := Nat.beq (sk_r v 3) (v + 1) && Nat.beq (sk_r v 4) (v + 2) && Nat.beq (sk_r v 5) (v + 3) && Nat.beq (sk_r v 6) (v + 4) && sk_i v 0 && sk_i v 1 && sk_i v 2 && sk_a (v + 1) && sk_a (v + 2) && sk_a (v + 3) && sk_a (v + 4) && Nat.beq (sk_l (v + 1)) 81 && Nat.beq (sk_l (v + 2)) 9 && Nat.beq (sk_l (v + 3)) 9 && Nat.beq (sk_l (v + 4)) 28
theorem okV_r (hS : SK w) (h : okV v = true) : gR w v 3 = v + 1 ∧ gR w v 4 = v + 2 ∧ gR w v 5 = v + 3 ∧ gR w v 6 = v + 4 ∧ isF w v 0 ∧ isF w v 1 ∧ isF w v 2 ∧ isA w (v + 1) ∧ isA w (v + 2) ∧ isA w (v + 3) ∧ isA w (v + 4) ∧ (gA w (v + 1)).length = 81 ∧ (gA w (v + 2)).length = 9 ∧ (gA w (v + 3)).length = 9 ∧ (gA w (v + 4)).length = 28 := by
  unfold okV at h
  simp only [Bool.and_eq_true] at h
  obtain ⟨⟨⟨⟨⟨⟨⟨⟨⟨⟨⟨⟨⟨⟨h1, h2⟩, h3⟩, h4⟩, h5⟩, h6⟩, h7⟩, h8⟩, h9⟩, h10⟩, h11⟩, h12⟩, h13⟩, h14⟩, h15⟩ := h
  exact ⟨sk_fix hS (Nat.eq_of_beq_eq_true h1) (by omega), sk_fix hS (Nat.eq_of_beq_eq_true h2) (by omega), sk_fix hS (Nat.eq_of_beq_eq_true h3) (by omega), sk_fix hS (Nat.eq_of_beq_eq_true h4) (by omega), SK_isF hS h5, SK_isF hS h6, SK_isF hS h7, SK_isA hS h8, SK_isA hS h9, SK_isA hS h10, SK_isA hS h11, SK_len hS (Nat.eq_of_beq_eq_true h12) (by decide), SK_len hS (Nat.eq_of_beq_eq_true h13) (by decide), SK_len hS (Nat.eq_of_beq_eq_true h14) (by decide), SK_len hS (Nat.eq_of_beq_eq_true h15) (by decide)⟩
theorem vcl_ok (hS : SK w) (h : okV v = true) (k : Nat) : vcl w v k = if k = 0 then gI w v 0 else if k = 1 then gI w v 2 else if k = 2 then gI w v 1 else if k < 84 then (gA w (v + 1)).getD (k - 3) 0 else if k < 93 then (gA w (v + 2)).getD (k - 84) 0 else if k < 102 then (gA w (v + 3)).getD (k - 93) 0 else if k < 130 then (gA w (v + 4)).getD (k - 102) 0 else 0 := by
  obtain ⟨h1, h2, h3, h4, _⟩ := okV_r hS h
  unfold vcl
  rw [h1, h2, h3, h4]
theorem cp_all {N : Nat} {x : Int32} (hc : cpI w a s 0 0 x) (hA : isA w s) (hx : x.toInt = N) (h1 : (gA w a).length = N) (h2 : (gA w s).length = N) (q : Nat) (hq : q < N) : (gA (cpS w a s 0 0 x) s).getD q 0 = (gA w a).getD q 0 := by
  rw [cpS_A hc hA, hx, z32, cpy_getF (by show 0 + N ≤ _; omega) (by show 0 + N ≤ _; omega), if_pos (by show 0 ≤ q ∧ q < 0 + N; omega)]
  show (gA w a).getD (0 + (q - 0)) 0 = _
  rw [show 0 + (q - 0) = q by omega]
theorem nadd {i j : Nat} (h : i ≠ j) : a + i ∉ [a + j] := by
  rw [List.mem_singleton]
  omega
theorem nsad {i j : Nat} (hd : a + 4 < s ∨ s + 4 < a) (hi : i ≤ 4) (hj : j ≤ 4) : s + i ∉ [a + j] := by
  rw [List.mem_singleton]
  omega
theorem vcl_eq (hS : SK w) (hS' : SK w') (ha : okV a = true) (hs : okV s = true) (g0 : gI w' a 0 = gI w s 0) (g1 : gI w' a 1 = gI w s 1) (g2 : gI w' a 2 = gI w s 2) (A1 : ∀ q, q < 81 → (gA w' (a + 1)).getD q 0 = (gA w (s + 1)).getD q 0) (A2 : ∀ q, q < 9 → (gA w' (a + 2)).getD q 0 = (gA w (s + 2)).getD q 0) (A3 : ∀ q, q < 9 → (gA w' (a + 3)).getD q 0 = (gA w (s + 3)).getD q 0) (A4 : ∀ q, q < 28 → (gA w' (a + 4)).getD q 0 = (gA w (s + 4)).getD q 0) (k : Nat) : vcl w' a k = vcl w s k := by
  rw [vcl_ok hS' ha, vcl_ok hS hs, g0, g1, g2]
  by_cases q0 : k = 0
  · rw [if_pos q0, if_pos q0]
  rw [if_neg q0, if_neg q0]
  by_cases q1 : k = 1
  · rw [if_pos q1, if_pos q1]
  rw [if_neg q1, if_neg q1]
  by_cases q2 : k = 2
  · rw [if_pos q2, if_pos q2]
  rw [if_neg q2, if_neg q2]
  by_cases q3 : k < 84
  · rw [if_pos q3, if_pos q3, A1 _ (by omega)]
  rw [if_neg q3, if_neg q3]
  by_cases q4 : k < 93
  · rw [if_pos q4, if_pos q4, A2 _ (by omega)]
  rw [if_neg q4, if_neg q4]
  by_cases q5 : k < 102
  · rw [if_pos q5, if_pos q5, A3 _ (by omega)]
  rw [if_neg q5, if_neg q5]
  by_cases q6 : k < 130
  · rw [if_pos q6, if_pos q6, A4 _ (by omega)]
  rw [if_neg q6, if_neg q6]
theorem F56 (hS : SK w) (ha : okV a = true) (hs : okV s = true) (hd : a + 4 < s ∨ s + 4 < a) (h : PS X k 56 0 [.ref a, .ref s] [] w r w') : r = none ∧ FM [(a, 0), (a, 1), (a, 2)] [a + 1, a + 2, a + 3, a + 4] w w' ∧ ∀ k, vcl w' a k = vcl w s k := by
  cases k with
  | zero => exact (PS_0 h).elim
  | succ k =>
    have e81 : (81 : Int32).toInt = (81 : Nat) := by decide +kernel
    have e9 : (9 : Int32).toInt = (9 : Nat) := by decide +kernel
    have e28 : (28 : Int32).toInt = (28 : Nat) := by decide +kernel
    have h := U56_0 hS h _ rfl _ rfl _ rfl
    obtain ⟨_, _, _, _, i0, i1, i2, _⟩ := okV_r hS ha
    have fa : FM [(a, 0), (a, 1), (a, 2)] [a + 1, a + 2, a + 3, a + 4] w (sI w a 0 (gI w s 0)) := FM_sI hS (by simp)
    have fb : FM [(a, 0), (a, 1), (a, 2)] [a + 1, a + 2, a + 3, a + 4] (sI w a 0 (gI w s 0)) (sI (sI w a 0 (gI w s 0)) a 1 (gI (sI w a 0 (gI w s 0)) s 1)) := FM_sI fa.2.2.2 (by simp)
    obtain ⟨w3, e3⟩ : ∃ w3, w3 = sI (sI (sI w a 0 (gI w s 0)) a 1 (gI (sI w a 0 (gI w s 0)) s 1)) a 2 (gI (sI (sI w a 0 (gI w s 0)) a 1 (gI (sI w a 0 (gI w s 0)) s 1)) s 2) := ⟨_, rfl⟩
    rw [← e3] at h
    have fc : FM [(a, 0), (a, 1), (a, 2)] [a + 1, a + 2, a + 3, a + 4] (sI (sI w a 0 (gI w s 0)) a 1 (gI (sI w a 0 (gI w s 0)) s 1)) w3 := by rw [e3]; exact FM_sI fb.2.2.2 (by simp)
    have sne : ∀ x y : Nat, ¬ (a = s ∧ x = y) := fun x y e => by omega
    have f3 := FM_trans fa (FM_trans fb fc)
    have S3 := f3.2.2.2
    have g0 : gI w3 a 0 = gI w s 0 := by
      rw [e3, gI_sI_ne (by omega), gI_sI_ne (by omega), gI_sI i0]
    have g1 : gI w3 a 1 = gI w s 1 := by
      rw [e3, gI_sI_ne (by omega), gI_sI (okV_r fa.2.2.2 ha).2.2.2.2.2.1, gI_sI_ne (sne _ _)]
    have g2 : gI w3 a 2 = gI w s 2 := by
      rw [e3, gI_sI (okV_r fb.2.2.2 ha).2.2.2.2.2.2.1, gI_sI_ne (sne _ _), gI_sI_ne (sne _ _)]
    have gs : ∀ x, gA w3 x = gA w x := fun x => by rw [e3, gA_sI, gA_sI, gA_sI]
    obtain ⟨ra1, ra2, ra3, ra4, _, _, _, ia1, ia2, ia3, ia4, la1, la2, la3, la4⟩ := okV_r S3 ha
    obtain ⟨rs1, rs2, rs3, rs4, _, _, _, _, _, _, _, ls1, ls2, ls3, ls4⟩ := okV_r S3 hs
    rw [ra1, rs1] at h
    obtain ⟨hc1, h⟩ := h
    have h := h _ rfl
    obtain ⟨w4, e4⟩ : ∃ w4, w4 = cpS w3 (s + 1) (a + 1) 0 0 81 := ⟨_, rfl⟩
    rw [← e4] at h
    have f4 : FM [] [a + 1] w3 w4 := by rw [e4]; exact FM_cpS hc1 S3 (by simp)
    have S4 := f4.2.2.2
    have c4 := cp_all hc1 ia1 e81 ls1 la1
    rw [← e4] at c4
    obtain ⟨_, ra2, _, _, _, _, _, ia1, ia2, ia3, ia4, la1, la2, la3, la4⟩ := okV_r S4 ha
    obtain ⟨_, rs2, _, _, _, _, _, _, _, _, _, ls1, ls2, ls3, ls4⟩ := okV_r S4 hs
    rw [ra2, rs2] at h
    obtain ⟨hc2, h⟩ := h
    have h := h _ rfl
    obtain ⟨w5, e5⟩ : ∃ w5, w5 = cpS w4 (s + 2) (a + 2) 0 0 9 := ⟨_, rfl⟩
    rw [← e5] at h
    have f5 : FM [] [a + 2] w4 w5 := by rw [e5]; exact FM_cpS hc2 S4 (by simp)
    have S5 := f5.2.2.2
    have c5 := cp_all hc2 ia2 e9 ls2 la2
    rw [← e5] at c5
    obtain ⟨_, _, ra3, _, _, _, _, ia1, ia2, ia3, ia4, la1, la2, la3, la4⟩ := okV_r S5 ha
    obtain ⟨_, _, rs3, _, _, _, _, _, _, _, _, ls1, ls2, ls3, ls4⟩ := okV_r S5 hs
    rw [ra3, rs3] at h
    obtain ⟨hc3, h⟩ := h
    have h := h _ rfl
    obtain ⟨w6, e6⟩ : ∃ w6, w6 = cpS w5 (s + 3) (a + 3) 0 0 9 := ⟨_, rfl⟩
    rw [← e6] at h
    have f6 : FM [] [a + 3] w5 w6 := by rw [e6]; exact FM_cpS hc3 S5 (by simp)
    have S6 := f6.2.2.2
    have c6 := cp_all hc3 ia3 e9 ls3 la3
    rw [← e6] at c6
    obtain ⟨_, _, _, ra4, _, _, _, ia1, ia2, ia3, ia4, la1, la2, la3, la4⟩ := okV_r S6 ha
    obtain ⟨_, _, _, rs4, _, _, _, _, _, _, _, ls1, ls2, ls3, ls4⟩ := okV_r S6 hs
    rw [ra4, rs4] at h
    obtain ⟨hc4, h⟩ := h
    obtain ⟨h1, h2⟩ := h _ rfl
    have f7 : FM [] [a + 4] w6 w' := by rw [h2]; exact FM_cpS hc4 S6 (by simp)
    have c7 := cp_all hc4 ia4 e28 ls4 la4
    rw [← h2] at c7
    have S7 := f7.2.2.2
    refine ⟨h1, FM_trans f3 (FM_trans (FM_mono f4 (by simp) (by simp)) (FM_trans (FM_mono f5 (by simp) (by simp)) (FM_trans (FM_mono f6 (by simp) (by simp)) (FM_mono f7 (by simp) (by simp))))), fun k => ?_⟩
    have nil : ∀ (x y : Nat), (x, y) ∉ ([] : List (Nat × Nat)) := fun x y z => by cases z
    have G : ∀ x, gI w' a x = gI w3 a x := fun x => by rw [FM_i f7 (nil _ _), FM_i f6 (nil _ _), FM_i f5 (nil _ _), FM_i f4 (nil _ _)]
    refine vcl_eq hS S7 ha hs (by rw [G, g0]) (by rw [G, g1]) (by rw [G, g2]) (fun q hq => ?_) (fun q hq => ?_) (fun q hq => ?_) (fun q hq => ?_) k
    · rw [FM_a f7 (nadd (by decide)), FM_a f6 (nadd (by decide)), FM_a f5 (nadd (by decide)), c4 _ hq, gs]
    · rw [FM_a f7 (nadd (by decide)), FM_a f6 (nadd (by decide)), c5 _ hq, FM_a f4 (nsad hd (by decide) (by decide)), gs]
    · rw [FM_a f7 (nadd (by decide)), c6 _ hq, FM_a f5 (nsad hd (by decide) (by decide)), FM_a f4 (nsad hd (by decide) (by decide)), gs]
    · rw [c7 _ hq, FM_a f6 (nsad hd (by decide) (by decide)), FM_a f5 (nsad hd (by decide) (by decide)), FM_a f4 (nsad hd (by decide) (by decide)), gs]
/-- a row stands at v -/
def okR (v : Nat) : Bool := Nat.beq (sk_r v 1) (v + 1) && sk_i v 0 && sk_a (v + 1) && Nat.beq (sk_l (v + 1)) 270
theorem okR_r (hS : SK w) (h : okR v = true) : gR w v 1 = v + 1 ∧ isF w v 0 ∧ isA w (v + 1) ∧ (gA w (v + 1)).length = 270 := by
  unfold okR at h
  simp only [Bool.and_eq_true] at h
  obtain ⟨⟨⟨h1, h2⟩, h3⟩, h4⟩ := h
  exact ⟨sk_fix hS (Nat.eq_of_beq_eq_true h1) (by omega), SK_isF hS h2, SK_isA hS h3, SK_len hS (Nat.eq_of_beq_eq_true h4) (by decide)⟩
theorem F57 (hS : SK w) (ha : okR a = true) (hs : okR s = true) (hd : a + 1 < s ∨ s + 1 < a) (h : PS X k 57 0 [.ref a, .ref s] [] w r w') : r = none ∧ FM [(a, 0)] [a + 1] w w' ∧ gI w' a 0 = gI w s 0 ∧ ∀ q, q < 270 → (gA w' (a + 1)).getD q 0 = (gA w (s + 1)).getD q 0 := by
  cases k with
  | zero => exact (PS_0 h).elim
  | succ k =>
    have e270 : (270 : Int32).toInt = (270 : Nat) := by decide +kernel
    have h := U57_0 hS h _ rfl
    obtain ⟨_, i0, _⟩ := okR_r hS ha
    obtain ⟨w1, e1⟩ : ∃ w1, w1 = sI w a 0 (gI w s 0) := ⟨_, rfl⟩
    rw [← e1] at h
    have f1 : FM [(a, 0)] [a + 1] w w1 := by rw [e1]; exact FM_sI hS (by simp)
    have S1 := f1.2.2.2
    have g0 : gI w1 a 0 = gI w s 0 := by rw [e1, gI_sI i0]
    have gs : ∀ x, gA w1 x = gA w x := fun x => by rw [e1, gA_sI]
    obtain ⟨ra, _, ia, la⟩ := okR_r S1 ha
    obtain ⟨rs, _, _, ls⟩ := okR_r S1 hs
    rw [ra, rs] at h
    obtain ⟨hc, h⟩ := h
    obtain ⟨h1, h2⟩ := h _ rfl
    have f2 : FM [] [a + 1] w1 w' := by rw [h2]; exact FM_cpS hc S1 (by simp)
    have c2 := cp_all hc ia e270 ls la
    rw [← h2] at c2
    refine ⟨h1, FM_trans f1 (FM_mono f2 (by simp) (by simp)), by rw [FM_i f2 (by intro z; cases z)]; exact g0, fun q hq => ?_⟩
    rw [c2 q hq, gs]
end GN
