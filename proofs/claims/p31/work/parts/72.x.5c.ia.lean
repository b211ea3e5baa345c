/-! ===== early ===== -/
section IAE
variable {X : pm_X} {k k2 : Nat} {w0 w w1 w2 w3 w4 w' : pm_W} {r r2 q0 q1 q2 : Option Value} {p p1 p2 p3 p4 p5 p6 p7 i1 i2 i3 sl z z1 z2 : Int32} {i v j m u u2 P t s b Q B rr len o3 N K W κ c x y : Nat} {n : Int32} {V V' D G G1 G2 : Nat → Int32} {s0 s1 s2 t1 t2 : SN} {a : Nat → Int32} {E E' : Nat → Nat → Bool} {A C : Nat → Bool}
theorem MSK_aF {x : Int32} (h : MSK x B (fun K => A K || (decide (K < t) && C K))) (hc : C t = false) : MSK (x ||| 0) B (fun K => A K || (decide (K < t + 1) && C K)) := by
  refine MSK_cg (MSK_o0 h) (fun b _ => ?_)
  congr 1
  by_cases e : b = t
  · rw [e, hc, Bool.and_false, Bool.and_false]
  · by_cases e2 : b < t
    · rw [decide_eq_true e2, decide_eq_true (show b < t + 1 by omega)]
    · rw [decide_eq_false e2, decide_eq_false (show ¬ b < t + 1 by omega)]
theorem MSK_aT {x y : Int32} (h : MSK x B (fun K => A K || (decide (K < t) && C K))) (hc : C t = true) (hy : y.toInt = t) (ht : t < B) (hB : B ≤ 32) : MSK (x ||| (1 <<< (y &&& 31))) B (fun K => A K || (decide (K < t + 1) && C K)) := by
  refine MSK_cg (MSK_ob h hy ht hB) (fun b _ => ?_)
  show (A b || (decide (b < t + 1) && C b)) = ((A b || (decide (b < t) && C b)) || decide (b = t))
  rw [Bool.or_assoc]
  congr 1
  by_cases e : b = t
  · rw [e, hc, decide_eq_true (show t < t + 1 by omega), decide_eq_true rfl, Bool.or_true]; rfl
  · rw [decide_eq_false e, Bool.or_false]
    by_cases e2 : b < t
    · rw [decide_eq_true e2, decide_eq_true (show b < t + 1 by omega)]
    · rw [decide_eq_false e2, decide_eq_false (show ¬ b < t + 1 by omega)]
/-- who has room, without the one between x and y -/
def edX (P : Nat) (V D : Nat → Int32) (n : Int32) (x y i b : Nat) : Bool := edR P V D n i b && !(decide (i = x) && decide (b = y))
theorem edX_P (h : edX P V D n x y i b = true) : b < P := by
  unfold edX at h
  rw [Bool.and_eq_true] at h
  exact edR_P h.1
theorem edX_cg (hP : P ≤ 9) (hV : ∀ q, q < 81 → V' (3 + q) = V (3 + q)) (hi : i < 9) : edX P V' D n x y i b = edX P V D n x y i b := by
  unfold edX
  rw [edR_cg hP hV hi]
/-- in how many steps y is reached -/
def EAR (E : Nat → Nat → Bool) (P x y : Nat) (z : Int32) : Prop := (∃ k : Nat, z.toInt = k ∧ RCH E P x k y = true ∧ ∀ j, j < k → RCH E P x j y = false) ∨ (z = -1 ∧ ∀ j, RCH E P x j y = false)
theorem EAR_2 (h1 : EAR E P x y z1) (h2 : EAR E P x y z2) : z1 = z2 := by
  rcases h1 with ⟨k1, a1, a2, a3⟩ | ⟨a1, a2⟩
  · rcases h2 with ⟨k2, b1, b2, b3⟩ | ⟨b1, b2⟩
    · have e : k1 = k2 := by
        by_cases c : k1 < k2
        · rw [b3 k1 c] at a2; exact Bool.noConfusion a2
        · by_cases c2 : k2 < k1
          · rw [a3 k2 c2] at b2; exact Bool.noConfusion b2
          · omega
      exact Int32.toInt_inj.mp (by rw [a1, b1, e])
    · rw [b2 k1] at a2; exact Bool.noConfusion a2
  · rcases h2 with ⟨k2, b1, b2, b3⟩ | ⟨b1, b2⟩
    · rw [a2 k2] at b2; exact Bool.noConfusion b2
    · rw [a1, b1]
theorem EAR_cg (h : ∀ a, a < P → ∀ b, E' a b = E a b) (he : EAR E P x y z) : EAR E' P x y z := by
  rcases he with ⟨k, a1, a2, a3⟩ | ⟨a1, a2⟩
  · exact Or.inl ⟨k, a1, by rw [RCH_cg h]; exact a2, fun j hj => by rw [RCH_cg h]; exact a3 j hj⟩
  · exact Or.inr ⟨a1, fun j => by rw [RCH_cg h]; exact a2 j⟩
theorem RCH_none (hx : x < P) (hy : y < P) (hk : P ≤ k + 1) (h : RCH E P x k y = false) (j : Nat) : RCH E P x j y = false := by
  cases hh : RCH E P x j y with
  | false => rfl
  | true =>
    rw [RCH_fin hx hk hy hh] at h
    exact Bool.noConfusion h
theorem RCH_lo (h : RCH E P x k y = false) (j : Nat) (hj : j ≤ k) : RCH E P x j y = false := by
  cases hh : RCH E P x j y with
  | false => rfl
  | true =>
    rw [RCH_mono hh k hj] at h
    exact Bool.noConfusion h
/-- the reference -/
theorem F300_l (hS : SK w) (hu : u ≤ 1) (hp : p7.toInt = (610 + 132 * u : Nat)) (hP : (al w (610 + 132 * u)).toInt = P) (hP9 : P ≤ 9) (h4 : p4.toInt = x) (h5 : p5.toInt = y) (hx : x < P) (hy : y < P) (hE : E = edX P (fun k => al w (610 + 132 * u + k)) (dR w) p6 x y) : ∀ k : Nat,
    (∀ (t : Nat) (i8 i9 : Int32) (u10 u11 u12 : Value), i9.toInt = (t + 1 : Nat) → t ≤ 9 → MSK i8 9 (RCH E P x t) → RCH E P x t y = false → PS X k 300 63 [.ref 147, .int p1, .int p2, .int p3, .int p4, .int p5, .int p6, .int p7, .int i8, .int i9, u10, u11, u12] [] w r w' → ∃ z, r = some (.int z) ∧ EAR E P x y z) ∧
    (∀ (t I : Nat) (i8 i9 i10 i11 : Int32) (u12 : Value), i9.toInt = (t + 1 : Nat) → t ≤ 8 → i11.toInt = I → I ≤ P → MSK i8 9 (RCH E P x t) → MSK i10 9 (fun q => RCH E P x t q || anN (fun i => RCH E P x t i && E i q) I) → RCH E P x t y = false → PS X k 300 77 [.ref 147, .int p1, .int p2, .int p3, .int p4, .int p5, .int p6, .int p7, .int i8, .int i9, .int i10, .int i11, u12] [] w r w' → ∃ z, r = some (.int z) ∧ EAR E P x y z) ∧
    (∀ (t I J : Nat) (i8 i9 i10 i11 i12 : Int32), i9.toInt = (t + 1 : Nat) → t ≤ 8 → i11.toInt = I → I < P → i12.toInt = J → J ≤ P → MSK i8 9 (RCH E P x t) → MSK i10 9 (fun q => (RCH E P x t q || anN (fun i => RCH E P x t i && E i q) I) || (decide (q < J) && (RCH E P x t I && E I q))) → RCH E P x t y = false → PS X k 300 92 [.ref 147, .int p1, .int p2, .int p3, .int p4, .int p5, .int p6, .int p7, .int i8, .int i9, .int i10, .int i11, .int i12] [] w r w' → ∃ z, r = some (.int z) ∧ EAR E P x y z) := by
  have eP : aG w 148 p7 = al w (610 + 132 * u) := aG_n (m := 610 + 132 * u) hp
  intro k
  induction k with
  | zero => exact ⟨fun _ _ _ _ _ _ _ _ _ _ h => (PS_0 h).elim, fun _ _ _ _ _ _ _ _ _ _ _ _ _ _ h => (PS_0 h).elim, fun _ _ _ _ _ _ _ _ _ _ _ _ _ _ _ _ _ h => (PS_0 h).elim⟩
  | succ k ih =>
    obtain ⟨ih63, ih77, ih92⟩ := ih
    refine ⟨fun t i8 i9 u10 u11 u12 h9 ht m8 hn h => ?_, fun t I i8 i9 i10 i11 u12 h9 ht h11 hI m8 m10 hn h => ?_, fun t I J i8 i9 i10 i11 i12 h9 ht h11 hI h12 hJ m8 m10 hn h => ?_⟩
    · have h := U300_63 hS h
      by_cases c : 10 ≤ i9
      · rw [if_pos c] at h
        rw [Int32.le_iff_toInt_le, ten32, h9] at c
        exact ⟨_, h.1, Or.inr ⟨rfl, RCH_none hx hy (by omega) hn⟩⟩
      · rw [if_neg c] at h
        rw [Int32.le_iff_toInt_le, ten32, h9] at c
        exact ih77 t 0 i8 i9 i8 0 u12 h9 (by omega) z32 (Nat.zero_le _) m8 (MSK_cg m8 (fun b _ => by show (RCH E P x t b || false) = _; rw [Bool.or_false])) hn h
    · obtain ⟨_, h⟩ := U300_77 hS h
      rw [eP] at h
      by_cases c : al w (610 + 132 * u) ≤ i11
      · rw [if_pos c] at h
        rw [Int32.le_iff_toInt_le, hP, h11] at c
        have e : I = P := by omega
        rw [e] at m10
        have m10 : MSK i10 9 (RCH E P x (t + 1)) := m10
        have tb := MSK_t m10 h5 (by omega) (by decide)
        by_cases c2 : ((i10 >>> (p5 &&& 31)) &&& 1) = 1
        · rw [if_pos c2] at h
          exact ⟨_, h.1, Or.inl ⟨t + 1, h9, tb.mp c2, fun j hj => RCH_lo hn j (by omega)⟩⟩
        · rw [if_neg c2] at h
          have hf : RCH E P x (t + 1) y = false := by
            cases hh : RCH E P x (t + 1) y with
            | false => rfl
            | true => exact absurd (tb.mpr hh) c2
          exact ih63 (t + 1) i10 _ _ _ _ (by rw [zi_inc (n := 40) (by omega) (by omega), h9]; rfl) (by omega) m10 hf h
      · rw [if_neg c] at h
        rw [Int32.le_iff_toInt_le, hP, h11] at c
        exact ih92 t I 0 i8 i9 i10 i11 0 h9 ht h11 (by omega) z32 (Nat.zero_le _) m8 (MSK_cg m10 (fun b _ => by rw [decide_eq_false (Nat.not_lt_zero b), Bool.false_and, Bool.or_false])) hn h
    · obtain ⟨_, h⟩ := U300_92 hS h
      rw [eP] at h
      by_cases c : al w (610 + 132 * u) ≤ i12
      · rw [if_pos c] at h
        rw [Int32.le_iff_toInt_le, hP, h12] at c
        have e : J = P := by omega
        refine ih77 t (I + 1) i8 i9 i10 _ _ h9 ht (by rw [zi_inc (n := 40) (by omega) (by omega), h11]; rfl) (by omega) m8 (MSK_cg m10 (fun b _ => ?_)) hn h
        show (RCH E P x t b || (anN (fun i => RCH E P x t i && E i b) I || (RCH E P x t I && E I b))) = _
        rw [← Bool.or_assoc, e]
        congr 1
        by_cases e2 : b < P
        · rw [decide_eq_true e2, Bool.true_and]
        · have : E I b = false := by
            cases hh : E I b with
            | false => rfl
            | true => rw [hE] at hh; exact absurd (edX_P hh) e2
          rw [this, Bool.and_false, Bool.and_false]
      · rw [if_neg c] at h
        rw [Int32.le_iff_toInt_le, hP, h12] at c
        have e1 : (i12 + 1).toInt = ((J + 1 : Nat) : Int) := by rw [zi_inc (n := 40) (by omega) (by omega), h12]; rfl
        have tb : ((i8 >>> (i11 &&& 31)) &&& 1) = 1 ↔ RCH E P x t I = true := MSK_t m8 h11 (by omega) (by decide)
        have skip : (RCH E P x t I && E I J) = false → PS X k 300 92 [.ref 147, .int p1, .int p2, .int p3, .int p4, .int p5, .int p6, .int p7, .int i8, .int i9, .int (i10 ||| 0), .int i11, .int (i12 + 1)] [] w r w' → ∃ z, r = some (.int z) ∧ EAR E P x y z := by
          intro hf h
          exact ih92 t I (J + 1) i8 i9 _ i11 _ h9 ht h11 hI e1 (by omega) m8 (MSK_aF m10 hf) hn h
        by_cases c1 : ((i8 >>> (i11 &&& 31)) &&& 1) = 1
        · rw [if_pos c1] at h
          have hI1 := tb.mp c1
          by_cases c2 : i11 = i12
          · rw [if_pos c2] at h
            refine skip ?_ h
            have e : J = I := by rw [c2, h12] at h11; omega
            rw [hE]
            unfold edX edR
            rw [decide_eq_true e]
            simp
          · rw [if_neg c2] at h
            have e : J ≠ I := fun e => c2 (Int32.toInt_inj.mp (by rw [h11, h12, e]))
            have go : ¬ (I = x ∧ J = y) → (∃ (r1 : Option Value) (w2 : pm_W), PS X k 231 0 [.ref 147, .int p7, .int i11, .int i12, pm_dead] [] w r1 w2 ∧ (∀ x3 : Int32, r1 = some (.int x3) → SK w2 → (if x3 < p6 then (PS X k 300 92 [.ref 147, .int p1, .int p2, .int p3, .int p4, .int p5, .int p6, .int p7, .int i8, .int i9, .int (i10 ||| 0), .int i11, .int (i12 + 1)] [] w2 r w') else (PS X k 300 92 [.ref 147, .int p1, .int p2, .int p3, .int p4, .int p5, .int p6, .int p7, .int i8, .int i9, .int (i10 ||| (1 <<< (i12 &&& 31))), .int i11, .int (i12 + 1)] [] w2 r w')))) → ∃ z, r = some (.int z) ∧ EAR E P x y z := by
              intro hxy h
              have h := use_p hS h (fun _ _ y => F231n hS hp hu h11 h12 (by omega) (by omega) y)
              have nx : (decide (I = x) && decide (J = y)) = false := by
                by_cases e1 : I = x
                · rw [decide_eq_false (show ¬ J = y from fun e2 => hxy ⟨e1, e2⟩), Bool.and_false]
                · rw [decide_eq_false e1, Bool.false_and]
              by_cases c3 : rmI (fun k => al w (610 + 132 * u + k)) (dR w) I J < p6
              · rw [if_pos c3] at h
                rw [Int32.lt_iff_toInt_lt] at c3
                refine skip ?_ h
                rw [hE]
                unfold edX edR
                rw [decide_eq_false (show ¬ p6.toInt ≤ _ by omega), Bool.and_false, Bool.and_false, Bool.false_and, Bool.and_false]
              · rw [if_neg c3] at h
                rw [Int32.lt_iff_toInt_lt] at c3
                refine ih92 t I (J + 1) i8 i9 _ i11 _ h9 ht h11 hI e1 (by omega) m8 (MSK_aT m10 ?_ h12 (by omega) (by decide)) hn h
                rw [hE] at hI1 ⊢
                show (RCH _ P x t I && _) = true
                rw [hI1]
                unfold edX edR
                rw [decide_eq_true (show J < P by omega), decide_eq_false e, decide_eq_true (show p6.toInt ≤ _ by omega), nx]
                rfl
            by_cases c4 : i11 = p4
            · rw [if_pos c4] at h
              have eI : I = x := by rw [c4, h4] at h11; omega
              by_cases c5 : i12 = p5
              · rw [if_pos c5] at h
                refine skip ?_ h
                have eJ : J = y := by rw [c5, h5] at h12; omega
                rw [hE]
                unfold edX
                rw [decide_eq_true eI, decide_eq_true eJ]
                simp
              · rw [if_neg c5] at h
                exact go (fun q => c5 (Int32.toInt_inj.mp (by rw [h12, h5, q.2]))) h
            · rw [if_neg c4] at h
              exact go (fun q => c4 (Int32.toInt_inj.mp (by rw [h11, h4, q.1]))) h
        · rw [if_neg c1] at h
          have hf : RCH E P x t I = false := by
            cases hh : RCH E P x t I with
            | false => rfl
            | true => exact absurd (tb.mpr hh) c1
          exact skip (by rw [hf]; rfl) h
/-- the class -/
theorem F149 (hS : SK w) (ok : okS N = true) (okv : okV v = true) (hv : gR w N 0 = v) (hP : (gI w v 0).toInt = P) (hP9 : P ≤ 9) (h1 : p1.toInt = x) (h2 : p2.toInt = y) (hx : x < P) (hy : y < P) (hne : x ≠ y) (h : PS X k 149 0 [.ref N, .int p1, .int p2, .int n, pm_dead, pm_dead] [] w r w') : (∃ z, r = some (.int z) ∧ EAR (edX P (vcl w v) (dA w N) n x y) P x y z) ∧ w' = w := by
  obtain ⟨E, hE⟩ : ∃ E, E = edX P (vcl w v) (dA w N) n x y := ⟨_, rfl⟩
  rw [← hE]
  have lp : ∀ (k t : Nat) (i4 i5 : Int32), i5.toInt = (t + 1 : Nat) → 1 ≤ t → t + 1 ≤ 9 → MSK i4 9 (RCH E P x t) → RCH E P x t y = false → PS X k 149 21 [.ref N, .int p1, .int p2, .int n, .int i4, .int i5] [] w r w' → (∃ z, r = some (.int z) ∧ EAR E P x y z) ∧ w' = w := by
    intro k
    induction k with
    | zero => intro t i4 i5 _ _ _ _ _ h; exact (PS_0 h).elim
    | succ k ih =>
      intro t i4 i5 h5 ht1 ht9 m4 hn h
      have h := U149_21 hS h
      rw [hv] at h
      by_cases c : gI w v 0 ≤ i5
      · rw [if_pos c] at h
        rw [Int32.le_iff_toInt_le, hP, h5] at c
        exact ⟨⟨_, h.1, Or.inr ⟨rfl, RCH_none hx hy (by omega) hn⟩⟩, h.2⟩
      · rw [if_neg c] at h
        rw [Int32.le_iff_toInt_le, hP, h5] at c
        obtain ⟨q1, w2, y1, h6⟩ := h
        obtain ⟨⟨z, z1, z2⟩, z3⟩ := F143 hS ok okv hv hP hP9 (MSK_cl m4 h1 (by omega)) y1
        have h := h6 _ z1 (by rw [z3]; exact hS)
        rw [z3] at h
        have m5 : MSK (i4 ||| z) 9 (RCH E P x (t + 1)) := by
          refine MSK_cg (MSK_or m4 z2) (fun b hb => ?_)
          rw [RCH_s]
          -- from x himself nothing new comes but y
          have q : ∀ A1 A2 C : Bool, (A1 = true → A2 = true ∨ C = true) → (A2 = true → A1 = true ∨ C = true) → (C || A1) = (C || A2) := by
            intro A1 A2 C h1 h2
            cases A1 <;> cases A2 <;> cases C <;> simp_all
          refine q _ _ _ (fun hA => ?_) (fun hA => ?_)
          · obtain ⟨i, hi, h⟩ := (anN_t P).mp hA
            rw [Bool.and_eq_true] at h
            by_cases e : i = x
            · right
              rw [e] at h
              exact RCH_mono (k := 1) (by
                rw [RCH_s, Bool.or_eq_true]
                right
                exact (anN_t P).mpr ⟨x, hx, by rw [h.2, Bool.and_true]; exact decide_eq_true rfl⟩) t ht1
            · left
              refine (anN_t P).mpr ⟨i, hi, ?_⟩
              have h2 := h.2
              rw [hE] at h2
              unfold edX at h2
              rw [Bool.and_eq_true] at h2
              rw [h.1, decide_eq_false e, h2.1]
              rfl
          · obtain ⟨i, hi, h⟩ := (anN_t P).mp hA
            rw [Bool.and_eq_true, Bool.and_eq_true] at h
            left
            refine (anN_t P).mpr ⟨i, hi, ?_⟩
            have e : i ≠ x := fun e => by
              rw [decide_eq_true e] at h
              exact Bool.noConfusion h.1.2
            rw [h.1.1, hE]
            unfold edX
            rw [h.2, decide_eq_false e]
            rfl
        have h := use_p hS h (fun _ _ y => F89m hS m5 h2 (by omega) (by decide) y)
        cases hh : RCH E P x (t + 1) y with
        | false =>
          rw [hh, if_pos (by decide +kernel)] at h
          exact ih (t + 1) _ _ (by rw [zi_inc (n := 40) (by omega) (by omega), h5]; rfl) (by omega) (by omega) m5 hh h
        | true =>
          rw [hh, if_neg (by decide +kernel)] at h
          exact ⟨⟨_, h.1, Or.inl ⟨t + 1, h5, hh, fun j hj => RCH_lo hn j (by omega)⟩⟩, h.2⟩
  cases k with
  | zero => exact (PS_0 h).elim
  | succ k =>
    obtain ⟨q1, w2, y1, h6⟩ := U149_0 hS h
    obtain ⟨⟨z, z1, z2⟩, z3⟩ := F144 hS ok okv hv hP hP9 h1 (by omega) y1
    have h := h6 _ z1 (by rw [z3]; exact hS)
    rw [z3] at h
    have m1 : MSK ((1 <<< (p1 &&& 31)) ||| (z &&& ((1 <<< (p2 &&& 31)) ^^^ (-1)))) 9 (RCH E P x 1) := by
      refine MSK_cg (MSK_or (MSK_b h1 (by omega) (by decide)) (MSK_cl z2 h2 (by omega))) (fun b hb => ?_)
      rw [RCH_s]
      show (decide (b = x) || anN (fun a => decide (a = x) && E a b) P) = _
      congr 1
      cases hh : E x b with
      | true =>
        rw [(anN_t P).mpr ⟨x, hx, by rw [hh, decide_eq_true rfl]; rfl⟩]
        rw [hE] at hh
        unfold edX at hh
        rw [decide_eq_true rfl, Bool.true_and] at hh
        exact hh.symm
      | false =>
        have : anN (fun a => decide (a = x) && E a b) P = false := by
          cases h9 : anN (fun a => decide (a = x) && E a b) P with
          | false => rfl
          | true =>
            obtain ⟨i, hi, h⟩ := (anN_t P).mp h9
            rw [Bool.and_eq_true] at h
            rw [of_decide_eq_true h.1, hh] at h
            exact Bool.noConfusion h.2
        rw [this]
        rw [hE] at hh
        unfold edX at hh
        rw [decide_eq_true rfl, Bool.true_and] at hh
        exact hh.symm
    refine lp _ 1 _ _ two32 (by omega) (by omega) m1 ?_ h
    rw [RCH_s]
    have e0 : RCH E P x 0 y = false := decide_eq_false (fun e => hne e.symm)
    rw [e0, Bool.false_or]
    cases h9 : anN (fun a => RCH E P x 0 a && E a y) P with
    | false => rfl
    | true =>
      obtain ⟨i, hi, h⟩ := (anN_t P).mp h9
      rw [Bool.and_eq_true] at h
      have e : i = x := of_decide_eq_true h.1
      have h2 := h.2
      rw [e, hE] at h2
      unfold edX at h2
      rw [decide_eq_true rfl, decide_eq_true rfl] at h2
      simp at h2
end IAE
