/-! ===== a want of a loaded state; who is reached with room ===== -/
section HYW
variable {X : pm_X} {k k2 : Nat} {w0 w w1 w2 w3 w4 w' : pm_W} {r r2 q0 q1 q2 : Option Value} {p p1 p2 p3 p4 p5 p6 i1 i2 i3 sl x y z z1 z2 : Int32} {i v j m u u2 P t s b Q B rr len o3 N K S W κ c : Nat} {n : Int32} {V V' D E G G1 G2 : Nat → Int32} {s0 s1 s2 t1 t2 : SN} {a : Nat → Int32}
/-- how many wants, a want's part -/
def Wof (a : Nat → Int32) (u : Nat) : Nat := (a (611 + 132 * u)).toInt.toNat
def wtP (a : Nat → Int32) (u κ c : Nat) : Int32 := a (712 + 132 * u + 4 * κ + c)
theorem VA_w (h : VAa a) (hu : u < (a 0).toInt.toNat) : (a (611 + 132 * u)).toInt = Wof a u ∧ Wof a u ≤ 7 ∧ ∀ κ, κ < Wof a u → 0 ≤ (wtP a u κ 0).toInt ∧ (wtP a u κ 0).toInt < Pof a u ∧ 0 ≤ (wtP a u κ 1).toInt ∧ (wtP a u κ 1).toInt < Pof a u ∧ (wtP a u κ 0).toInt ≠ (wtP a u κ 1).toInt ∧ 1 ≤ (wtP a u κ 2).toInt ∧ (wtP a u κ 2).toInt ≤ 99 ∧ 0 ≤ (wtP a u κ 3).toInt ∧ (wtP a u κ 3).toInt ≤ 99 := by
  obtain ⟨g, hg, ⟨c1, c2⟩, ⟨d1, d2⟩, _, _, _, _, hw⟩ := h.1 u hu
  have d1 : 0 ≤ (a (610 + 132 * u + 1)).toInt := d1
  have d2 : (a (610 + 132 * u + 1)).toInt ≤ 7 := d2
  rw [show 610 + 132 * u + 1 = 611 + 132 * u by omega] at d1 d2
  have hw : ∀ k, k < (a (610 + 132 * u + 1)).toInt.toNat → 0 ≤ (a (610 + 132 * u + (102 + 4 * k))).toInt ∧ (a (610 + 132 * u + (102 + 4 * k))).toInt ≤ g ∧ 0 ≤ (a (610 + 132 * u + (103 + 4 * k))).toInt ∧ (a (610 + 132 * u + (103 + 4 * k))).toInt ≤ g ∧ (a (610 + 132 * u + (102 + 4 * k))).toInt ≠ (a (610 + 132 * u + (103 + 4 * k))).toInt ∧ 1 ≤ (a (610 + 132 * u + (104 + 4 * k))).toInt ∧ (a (610 + 132 * u + (104 + 4 * k))).toInt ≤ 99 ∧ 0 ≤ (a (610 + 132 * u + (105 + 4 * k))).toInt ∧ (a (610 + 132 * u + (105 + 4 * k))).toInt ≤ 99 := hw
  rw [show 610 + 132 * u + 1 = 611 + 132 * u by omega] at hw
  unfold Wof
  refine ⟨by omega, by omega, fun κ hκ => ?_⟩
  have q := hw κ hκ
  have e0 : wtP a u κ 0 = a (610 + 132 * u + (102 + 4 * κ)) := by unfold wtP; rw [show 712 + 132 * u + 4 * κ + 0 = 610 + 132 * u + (102 + 4 * κ) by omega]
  have e1 : wtP a u κ 1 = a (610 + 132 * u + (103 + 4 * κ)) := by unfold wtP; rw [show 712 + 132 * u + 4 * κ + 1 = 610 + 132 * u + (103 + 4 * κ) by omega]
  have e2 : wtP a u κ 2 = a (610 + 132 * u + (104 + 4 * κ)) := by unfold wtP; rw [show 712 + 132 * u + 4 * κ + 2 = 610 + 132 * u + (104 + 4 * κ) by omega]
  have e3 : wtP a u κ 3 = a (610 + 132 * u + (105 + 4 * κ)) := by unfold wtP; rw [show 712 + 132 * u + 4 * κ + 3 = 610 + 132 * u + (105 + 4 * κ) by omega]
  rw [e0, e1, e2, e3]
  unfold Pof
  omega
/-- the class's load with a want -/
theorem F141 (h3 : RL3 w) (h : PS X k 141 0 [.ref 0, .int p1, .int p2, .int p3, .int p4] [] w r w') : ∃ (k' : Nat) (q1 : Option Value), PS X k' 98 0 [.ref 0, .int p1, .int p2, .int p3, pm_dead, pm_dead, pm_dead] [] w q1 w' ∧ ((q1 = some (.int 0) ∧ r = some (.int 0)) ∨ (q1 = some (.int 1) ∧ ∃ (u : Nat) (s1 : SN), LDR (al w) p1 p2 p3 (gAr w 33) u s1 ∧ CSt w' 33 (5 + 5 * u) (Pof (al w) u) s1.1 s1.2.1 s1.2.2.1 s1.2.2.2 ∧ r = some (.int (b2i (decide (0 ≤ p4.toInt ∧ p4.toInt < (Wof (al w) u : Nat))))))) := by
  have hS := h3.1.1
  cases k with
  | zero => exact (PS_0 h).elim
  | succ k =>
    obtain ⟨q1, w3, z, h⟩ := U141_0 hS h
    obtain ⟨f1, alt⟩ := F98 h3 z
    have S3 : SK w3 := f1.2.2.2
    rcases alt with ⟨u, s1, a1, a2, a3⟩ | ⟨a1, a2⟩
    · have h := h _ a1 S3
      rw [if_neg (by decide +kernel)] at h
      obtain ⟨g1, g2, g3, g4⟩ := CVL h3 a2.2.1 f1 a3
      obtain ⟨u1, _, gw, _⟩ := VT hS h3.1.2.1 a2.2.1
      have gW : (gI w3 (gR w3 33 0) 2).toInt = Wof (al w) u := by
        rw [g3, FM_i f1 (by simp; omega), gw]
        exact (VA_w h3.2 a2.2.1).1
      have h := use_p S3 h (fun _ _ y => F64 S3 gW y)
      by_cases c : 0 ≤ p4.toInt ∧ p4.toInt < (Wof (al w) u : Nat)
      · have h := ifb_t c h
        rw [h.2]
        refine ⟨k, q1, z, Or.inr ⟨a1, u, s1, a2, a3, ?_⟩⟩
        rw [decide_eq_true c]; exact h.1
      · have h := ifb_f c h
        rw [h.2]
        refine ⟨k, q1, z, Or.inr ⟨a1, u, s1, a2, a3, ?_⟩⟩
        rw [decide_eq_false c]; exact h.1
    · have h := h _ a1 S3
      rw [if_pos rfl] at h
      rw [h.2]
      exact ⟨k, q1, z, Or.inl ⟨a1, h.1⟩⟩
/-- the reference's -/
theorem F265 (h3 : RL3 w) (z : PS X k 98 0 [.ref 0, .int p1, .int p2, .int p3, pm_dead, pm_dead, pm_dead] [] w q1 w1) (S2 : SK w2) (e : al w2 = al w) (h : PS X k2 265 0 [.ref 147, .int p1, .int p2, .int p3, .int p4] [] w2 r w') : SK w' ∧ al w' = al w ∧ ((q1 = some (.int 0) ∧ r = some (.int 0)) ∨ ∃ (u : Nat) (s1 s2 : SN), q1 = some (.int 1) ∧ LD3 w w1 w' p1 u s1 s2 ∧ r = some (.int (b2i (decide (0 ≤ p4.toInt ∧ p4.toInt < (Wof (al w) u : Nat)))))) := by
  cases k2 with
  | zero => exact (PS_0 h).elim
  | succ k2 =>
    obtain ⟨q6, w6, y6, h⟩ := U265_0 S2 h
    obtain ⟨f2, e6, alt2⟩ := LOAD3 h3 z S2 e y6
    have S6 : SK w6 := f2.2.2.2
    rcases alt2 with ⟨b0, b2⟩ | ⟨u, t1, t2, b1, b2, b3⟩
    · have h := h _ b2 S6
      rw [if_pos rfl] at h
      rw [h.2]
      exact ⟨S6, e6, Or.inl ⟨b0, h.1⟩⟩
    · have h := h _ b2 S6
      rw [if_neg (by decide +kernel)] at h
      obtain ⟨c1, c2, c3, _⟩ := id b3
      obtain ⟨v1, v2, _⟩ := VA_w h3.2 c2
      have h := use_p S6 h (fun _ _ y => F217v S6 c1 c3 y)
      have h := use_p S6 h (fun _ _ y => F223n (m := 610 + 132 * u) (L := Wof (al w) u) S6 (plV c1 c3) (by omega) (by rw [e6, show 610 + 132 * u + 1 = 611 + 132 * u by omega]; exact v1) (by omega) y)
      by_cases c : 0 ≤ p4.toInt ∧ p4.toInt < (Wof (al w) u : Nat)
      · have h := ifb_t c h
        rw [h.2]
        refine ⟨S6, e6, Or.inr ⟨u, t1, t2, b1, b3, ?_⟩⟩
        rw [decide_eq_true c]; exact h.1
      · have h := ifb_f c h
        rw [h.2]
        refine ⟨S6, e6, Or.inr ⟨u, t1, t2, b1, b3, ?_⟩⟩
        rw [decide_eq_false c]; exact h.1
/-- a want's part -/
theorem F65w (h3 : RL3 w) (f : FM [(33, 0), (33, 1), (33, 2)] [39, 40, 41] w w1) (hu : u < (al w 0).toInt.toNat) (h4 : p4.toInt = κ) (hκ : κ < 7) (hc : p.toInt = c) (hc4 : c < 4) (h : PS X k 65 0 [.ref (5 + 5 * u), .int p4, .int p] [] w1 r w') : r = some (.int (wtP (al w) u κ c)) ∧ w' = w1 := by
  have hS := h3.1.1
  have S1 : SK w1 := f.2.2.2
  obtain ⟨u1, _, _, _, _, _, _, g6⟩ := VT hS h3.1.2.1 hu
  obtain ⟨_, _, _, v6⟩ := VR S1 u1
  obtain ⟨h1, h2⟩ := F65 S1 v6 h
  refine ⟨?_, h2⟩
  rw [h1, aG_n (m := 4 * κ + c) (by rw [zi_add (zi_mul h4 four32 (by omega) (by omega)) hc (by omega) (by omega)]; omega), FM_a f (by simp; omega), g6 _ (by omega)]
  unfold wtP
  rw [show 712 + 132 * u + (4 * κ + c) = 712 + 132 * u + 4 * κ + c by omega]
theorem F224w (hS : SK w) (hu : u ≤ 1) (hp : p1.toInt = (610 + 132 * u : Nat)) (h4 : p2.toInt = κ) (hκ : κ < 7) (hc : p3.toInt = c) (hc4 : c < 4) (h : PS X k 224 0 [.ref 147, .int p1, .int p2, .int p3] [] w r w') : r = some (.int (wtP (al w) u κ c)) ∧ w' = w := by
  have e102 : (102 : Int32).toInt = 102 := by decide +kernel
  obtain ⟨h1, h2⟩ := F224 hS h
  refine ⟨?_, h2⟩
  rw [h1, aG_n (m := 712 + 132 * u + 4 * κ + c) (by rw [zi_add (zi_add (zi_add hp e102 (by omega) (by omega)) (zi_mul four32 h4 (by omega) (by omega)) (by omega) (by omega)) hc (by omega) (by omega)]; omega)]
  rfl
/-- who has room from x -/
def edR (P : Nat) (V D : Nat → Int32) (n : Int32) (x b : Nat) : Bool := decide (b < P) && (!decide (b = x) && decide (n.toInt ≤ (rmI V D x b).toInt))
theorem edR_P (h : edR P V D n i b = true) : b < P := by
  unfold edR at h
  rw [Bool.and_eq_true] at h
  exact of_decide_eq_true h.1
theorem edR_cg (hP : P ≤ 9) (hV : ∀ q, q < 81 → V' (3 + q) = V (3 + q)) (hi : i < 9) : edR P V' D n i b = edR P V D n i b := by
  unfold edR
  by_cases e : b < P
  · rw [rmI_cg hV hi (by omega)]
  · rw [decide_eq_false e, Bool.false_and, Bool.false_and]
/-- the class: to whom from one -/
theorem F144_5 (hS : SK w) (ok : okS N = true) (okv : okV v = true) (hv : gR w N 0 = v) (hP : (gI w v 0).toInt = P) (hP9 : P ≤ 9) (h1 : i1.toInt = i) (hi : i < 9) : ∀ (k t : Nat) (i3 i4 : Int32), i4.toInt = t → t ≤ P → MSK i3 9 (fun K => decide (K < t) && (!decide (K = i) && decide (n.toInt ≤ (rmI (vcl w v) (dA w N) i K).toInt))) → PS X k 144 5 [.ref N, .int i1, .int n, .int i3, .int i4] [] w r w' → (∃ z, r = some (.int z) ∧ MSK z 9 (edR P (vcl w v) (dA w N) n i)) ∧ w' = w := by
  intro k
  induction k with
  | zero => intro t i3 i4 _ _ _ h; exact (PS_0 h).elim
  | succ k ih =>
    intro t i3 i4 h4 ht hm h
    have h := U144_5 hS h
    rw [hv] at h
    by_cases c : gI w v 0 ≤ i4
    · rw [if_pos c] at h
      rw [Int32.le_iff_toInt_le, hP, h4] at c
      have e : t = P := by omega
      rw [e] at hm
      exact ⟨⟨i3, h.1, hm⟩, h.2⟩
    · rw [if_neg c] at h
      rw [Int32.le_iff_toInt_le, hP, h4] at c
      have e1 : (i4 + 1).toInt = ((t + 1 : Nat) : Int) := by rw [zi_inc (n := 40) (by omega) (by omega), h4]; rfl
      by_cases ce : i4 = i1
      · rw [if_pos ce] at h
        have et : t = i := by rw [ce, h1] at h4; omega
        exact ih (t + 1) _ _ e1 (by omega) (MSK_sF hm (by rw [decide_eq_true et]; rfl)) h
      · rw [if_neg ce] at h
        have et : t ≠ i := fun e => ce (Int32.toInt_inj.mp (by rw [h4, h1, e]))
        have h := use_p hS h (fun _ _ y => F77n hS ok okv hv h1 h4 hi (by omega) y)
        by_cases c2 : rmI (vcl w v) (dA w N) i t < n
        · rw [if_pos c2] at h
          rw [Int32.lt_iff_toInt_lt] at c2
          exact ih (t + 1) _ _ e1 (by omega) (MSK_sF hm (by rw [decide_eq_false (show ¬ n.toInt ≤ _ by omega), Bool.and_false])) h
        · rw [if_neg c2] at h
          rw [Int32.lt_iff_toInt_lt] at c2
          exact ih (t + 1) _ _ e1 (by omega) (MSK_sT hm (by rw [decide_eq_false et, decide_eq_true (show n.toInt ≤ _ by omega)]; rfl) h4 (by omega) (by decide)) h
theorem F144 (hS : SK w) (ok : okS N = true) (okv : okV v = true) (hv : gR w N 0 = v) (hP : (gI w v 0).toInt = P) (hP9 : P ≤ 9) (h1 : p1.toInt = i) (hi : i < 9) (h : PS X k 144 0 [.ref N, .int p1, .int n, pm_dead, pm_dead] [] w r w') : (∃ z, r = some (.int z) ∧ MSK z 9 (edR P (vcl w v) (dA w N) n i)) ∧ w' = w := by
  cases k with
  | zero => exact (PS_0 h).elim
  | succ k => exact F144_5 hS ok okv hv hP hP9 h1 hi _ 0 0 0 z32 (Nat.zero_le _) (MSK_z (fun b _ => by rw [decide_eq_false (Nat.not_lt_zero b)]; rfl)) (U144_0 hS h)
/-- from all of a set -/
theorem F143_5 {c : Nat → Bool} (hS : SK w) (ok : okS N = true) (okv : okV v = true) (hv : gR w N 0 = v) (hP : (gI w v 0).toInt = P) (hP9 : P ≤ 9) (hm1 : MSK i1 9 c) : ∀ (k t : Nat) (i3 i4 : Int32), i4.toInt = t → t ≤ P → MSK i3 9 (fun b => anN (fun a => c a && edR P (vcl w v) (dA w N) n a b) t) → PS X k 143 5 [.ref N, .int i1, .int n, .int i3, .int i4] [] w r w' → (∃ z, r = some (.int z) ∧ MSK z 9 (fun b => anN (fun a => c a && edR P (vcl w v) (dA w N) n a b) P)) ∧ w' = w := by
  intro k
  induction k with
  | zero => intro t i3 i4 _ _ _ h; exact (PS_0 h).elim
  | succ k ih =>
    intro t i3 i4 h4 ht hm h
    have h := U143_5 hS h
    rw [hv] at h
    by_cases cl : gI w v 0 ≤ i4
    · rw [if_pos cl] at h
      rw [Int32.le_iff_toInt_le, hP, h4] at cl
      have e : t = P := by omega
      rw [e] at hm
      exact ⟨⟨i3, h.1, hm⟩, h.2⟩
    · rw [if_neg cl] at h
      rw [Int32.le_iff_toInt_le, hP, h4] at cl
      have e1 : (i4 + 1).toInt = ((t + 1 : Nat) : Int) := by rw [zi_inc (n := 40) (by omega) (by omega), h4]; rfl
      have h := use_p hS h (fun _ _ y => F89m hS hm1 h4 (by omega) (by decide) y)
      cases hc : c t with
      | false =>
        rw [hc, if_pos (by decide +kernel)] at h
        refine ih (t + 1) _ _ e1 (by omega) (MSK_cg (MSK_o0 hm) (fun b _ => ?_)) h
        show (anN _ t || (c t && _)) = _
        rw [hc, Bool.false_and, Bool.or_false]
      | true =>
        rw [hc, if_neg (by decide +kernel)] at h
        obtain ⟨q4, w5, y, h5⟩ := h
        obtain ⟨⟨z, z1, z2⟩, z3⟩ := F144 hS ok okv hv hP hP9 h4 (by omega) y
        have h := h5 _ z1 (by rw [z3]; exact hS)
        rw [z3] at h
        refine ih (t + 1) _ _ e1 (by omega) (MSK_cg (MSK_or hm z2) (fun b _ => ?_)) h
        show (anN _ t || (c t && _)) = _
        rw [hc, Bool.true_and]
theorem F143 {c : Nat → Bool} (hS : SK w) (ok : okS N = true) (okv : okV v = true) (hv : gR w N 0 = v) (hP : (gI w v 0).toInt = P) (hP9 : P ≤ 9) (hm1 : MSK p1 9 c) (h : PS X k 143 0 [.ref N, .int p1, .int n, pm_dead, pm_dead] [] w r w') : (∃ z, r = some (.int z) ∧ MSK z 9 (fun b => anN (fun a => c a && edR P (vcl w v) (dA w N) n a b) P)) ∧ w' = w := by
  cases k with
  | zero => exact (PS_0 h).elim
  | succ k => exact F143_5 hS ok okv hv hP hP9 hm1 _ 0 0 0 z32 (Nat.zero_le _) (MSK_z (fun b _ => rfl)) (U143_0 hS h)
theorem F142 (hS : SK w) (ok : okS N = true) (okv : okV v = true) (hv : gR w N 0 = v) (hP : (gI w v 0).toInt = P) (hP9 : P ≤ 9) (h1 : p1.toInt = s) (hs : s < P) (h : PS X k 142 0 [.ref N, .int p1, .int n, pm_dead, pm_dead] [] w r w') : (∃ z, r = some (.int z) ∧ MSK z 9 (RCH (edR P (vcl w v) (dA w N) n) P s P)) ∧ w' = w := by
  have lp : ∀ (k t : Nat) (i3 i4 : Int32), i4.toInt = t → t ≤ P → MSK i3 9 (RCH (edR P (vcl w v) (dA w N) n) P s t) → PS X k 142 7 [.ref N, .int p1, .int n, .int i3, .int i4] [] w r w' → (∃ z, r = some (.int z) ∧ MSK z 9 (RCH (edR P (vcl w v) (dA w N) n) P s P)) ∧ w' = w := by
    intro k
    induction k with
    | zero => intro t i3 i4 _ _ _ h; exact (PS_0 h).elim
    | succ k ih =>
      intro t i3 i4 h4 ht hm h
      have h := U142_7 hS h
      rw [hv] at h
      by_cases c : gI w v 0 ≤ i4
      · rw [if_pos c] at h
        rw [Int32.le_iff_toInt_le, hP, h4] at c
        have e : t = P := by omega
        rw [e] at hm
        exact ⟨⟨i3, h.1, hm⟩, h.2⟩
      · rw [if_neg c] at h
        rw [Int32.le_iff_toInt_le, hP, h4] at c
        have e1 : (i4 + 1).toInt = ((t + 1 : Nat) : Int) := by rw [zi_inc (n := 40) (by omega) (by omega), h4]; rfl
        obtain ⟨q4, w5, y, h5⟩ := h
        obtain ⟨⟨z, z1, z2⟩, z3⟩ := F143 hS ok okv hv hP hP9 hm y
        have h := h5 _ z1 (by rw [z3]; exact hS)
        rw [z3] at h
        exact ih (t + 1) _ _ e1 (by omega) (MSK_cg (MSK_or hm z2) (fun b _ => rfl)) h
  cases k with
  | zero => exact (PS_0 h).elim
  | succ k => exact lp _ 0 _ 0 z32 (Nat.zero_le _) (MSK_b h1 (by omega) (by decide)) (U142_0 hS h)
end HYW
