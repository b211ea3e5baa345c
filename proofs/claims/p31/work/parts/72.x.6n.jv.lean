/-! ===== stranger ===== -/
section JVA
variable {X : pm_X} {k k2 : Nat} {w0 w w1 w2 w3 w4 w5 w6 wj w' : pm_W} {r r2 q0 q1 q2 : Option Value} {p1 p2 p3 p4 p5 p6 i1 i2 i3 i4 i5 i6 i7 i8 i9 i10 z z1 z2 x : Int32} {i v j m c u P t s a d p q M n : Nat} {e g y : Int} {f h : Nat → Int} {R : Nat → Nat → Int} {s1 t1 t2 : SN}
theorem su_1 (h : ∀ i, 0 ≤ f i ∧ f i ≤ 1) : ∀ n : Nat, 0 ≤ suI f n ∧ suI f n ≤ n
  | 0 => ⟨Int.le_refl _, Int.le_refl _⟩
  | n + 1 => by
    have a := su_1 h n
    have b := h n
    show 0 ≤ suI f n + f n ∧ suI f n + f n ≤ ((n + 1 : Nat) : Int)
    omega
/-- the rings of m through a -/
noncomputable def sgR (R : Nat → Nat → Int) (P : Nat) (y : Int) (a m : Nat) : Int := suI (sgI R P y a m) (9 ^ (m - 1))
theorem sgR_n : 0 ≤ sgR R P y a m := (su_1 (f := sgI R P y a m) (fun _ => sgI_b) _).1
theorem sgR_C (hM : 1 ≤ M) : suI (sgR R P y a) (M + 1) = sgC R P y a (M - 1) 1 0 := by
  rw [su_shift, sgC_T, show M - 1 + 1 = M by omega]
  have z0 : sgR R P y a 0 = 0 := by
    show 0 + sgI R P y a 0 0 = 0
    rw [sgI_f (fun q => by have := q.1; omega)]
    rfl
  rw [z0, Int.zero_add]
  refine suI_cg M (fun j _ => ?_)
  have q := sgT_su (f := sgI R P y a (1 + j)) j 0
  rw [← q]
  show suI (sgI R P y a (j + 1)) (9 ^ j) = suI (fun x => sgI R P y a (1 + j) (9 ^ j * 0 + x)) (9 ^ j)
  refine suI_cg _ (fun i _ => ?_)
  show sgI R P y a (j + 1) i = sgI R P y a (1 + j) (9 ^ j * 0 + i)
  rw [Nat.mul_zero, Nat.zero_add, Nat.add_comm]
theorem pw9 (h : n ≤ 5) : (9 : Int) ^ n ≤ 59049 ∧ 9 ^ n ≤ 59049 := by
  have cn : n = 0 ∨ n = 1 ∨ n = 2 ∨ n = 3 ∨ n = 4 ∨ n = 5 := by omega
  rcases cn with rfl | rfl | rfl | rfl | rfl | rfl <;> decide
theorem F301_l (hS0 : SK w0) (hp : i7.toInt = (610 + 132 * u : Nat)) (hu : u ≤ 1) (hP : (al w0 (610 + 132 * u)).toInt = P) (hP9 : P ≤ 9) (h4 : i4.toInt = a) (ha : a < P) (h5 : i5.toInt = M) (hM : 2 ≤ M ∧ M ≤ 6) (h6 : i6.toInt = y) : ∀ k : Nat,
    (∀ (w : pm_W) (m : Nat) (i8 i9 : Int32) (u10 : Value), FM [] [158] w0 w → i9.toInt = m → 2 ≤ m → m ≤ M + 1 → i8.toInt = suI (sgR (rmA w0 u) P y a) m → PS X k 301 51 [.ref 147, .int i1, .int i2, .int i3, .int i4, .int i5, .int i6, .int i7, .int i8, .int i9, u10] [] w r w' → ∃ z : Int32, r = some (.int z) ∧ z.toInt = suI (sgR (rmA w0 u) P y a) (M + 1)) ∧
    (∀ (w : pm_W) (m c : Nat) (i8 i9 i10 : Int32), FM [] [158] w0 w → i9.toInt = m → 2 ≤ m → m ≤ M → i10.toInt = c → c ≤ 9 ^ (m - 1) → i8.toInt = suI (sgR (rmA w0 u) P y a) m + suI (sgI (rmA w0 u) P y a m) c → PS X k 301 61 [.ref 147, .int i1, .int i2, .int i3, .int i4, .int i5, .int i6, .int i7, .int i8, .int i9, .int i10] [] w r w' → ∃ z : Int32, r = some (.int z) ∧ z.toInt = suI (sgR (rmA w0 u) P y a) (M + 1)) := by
  intro k
  induction k with
  | zero => exact ⟨fun _ _ _ _ _ _ _ _ _ _ h => (PS_0 h).elim, fun _ _ _ _ _ _ _ _ _ _ _ _ _ h => (PS_0 h).elim⟩
  | succ k ih =>
    obtain ⟨ih51, ih61⟩ := ih
    refine ⟨fun w m i8 i9 u10 fm h9 m2 mM h8 h => ?_, fun w m c i8 i9 i10 fm h9 m2 mM h10 hc h8 h => ?_⟩
    · have hS : SK w := fm.2.2.2
      have h := U301_51 hS h
      by_cases c1 : i5 < i9
      · rw [if_pos c1] at h
        rw [Int32.lt_iff_toInt_lt, h5, h9] at c1
        exact ⟨i8, h.1, by rw [h8, show m = M + 1 by omega]⟩
      · rw [if_neg c1] at h
        rw [Int32.lt_iff_toInt_lt, h5, h9] at c1
        exact ih61 w m 0 i8 i9 0 fm h9 m2 (by omega) z32 (Nat.zero_le _) (by rw [h8]; show _ = _ + 0; omega) h
    · have hS : SK w := fm.2.2.2
      have h := U301_61 hS h
      have p5 := pw9 (n := m - 1) (by omega)
      obtain ⟨zp, hz, h⟩ := use_z hS h (fun _ _ t => F267 (t := m - 1) hS (by rw [zi_sub h9 o32 (by omega) (by omega)]; omega) (by omega) t)
      by_cases c1 : zp ≤ i10
      · rw [if_pos c1] at h
        rw [Int32.le_iff_toInt_le, hz, h10] at c1
        refine ih51 w (m + 1) i8 _ _ fm (by rw [zi_inc (n := 40) (by omega) (by omega), h9]; rfl) (by omega) (by omega) ?_ h
        rw [h8, show c = 9 ^ (m - 1) by omega]
        rfl
      · rw [if_neg c1] at h
        rw [Int32.le_iff_toInt_le, hz, h10] at c1
        have clt : c < 9 ^ (m - 1) := by omega
        have e10 : (i10 + 1).toInt = ((c + 1 : Nat) : Int) := by rw [zi_inc (n := 100000) (by omega) (by omega), h10]; rfl
        have tot := sgR_C (R := rmA w0 u) (P := P) (y := y) (a := a) (M := M) (by omega)
        have totb := sgC_b (R := rmA w0 u) (P := P) (y := y) (a := a) (M - 1) 1 0
        have pM := pw9 (n := M - 1) (by omega)
        have lem := su_le (f := sgR (rmA w0 u) P y a) (m := M + 1) (fun _ _ => sgR_n) m (by omega)
        have lem0 := su_le (f := sgR (rmA w0 u) P y a) (m := m) (fun _ _ => sgR_n) 0 (by omega)
        have z0 : suI (sgR (rmA w0 u) P y a) 0 = 0 := rfl
        have sc := su_1 (f := sgI (rmA w0 u) P y a m) (fun _ => sgI_b) c
        have s1 : suI (sgI (rmA w0 u) P y a m) (c + 1) = suI (sgI (rmA w0 u) P y a m) c + sgI (rmA w0 u) P y a m c := rfl
        have a0 : (i8 + 0).toInt = i8.toInt := by rw [zi_add rfl z32 (by omega) (by omega)]; omega
        have a1 : (i8 + 1).toInt = i8.toInt + 1 := zi_inc (n := 1000000) (by omega) (by omega)
        have skip : ∀ wj, FM [] [158] w0 wj → ¬ sgV (rmA w0 u) P y a m c → PS X k 301 61 [.ref 147, .int i1, .int i2, .int i3, .int i4, .int i5, .int i6, .int i7, .int (i8 + 0), .int i9, .int (i10 + 1)] [] wj r w' → ∃ z : Int32, r = some (.int z) ∧ z.toInt = suI (sgR (rmA w0 u) P y a) (M + 1) := by
          intro wj fj hn hh
          exact ih61 wj m (c + 1) _ i9 _ fj h9 m2 mM e10 clt (by rw [a0, h8, s1, sgI_f hn]; omega) hh
        obtain ⟨_, h⟩ := h
        obtain ⟨r5, w6, y6, h⟩ := h _ rfl
        have f4 : FM [] [158] w (aS w 158 0 i4) := FM_aS hS (by decide)
        have f04 := FM_trans fm f4
        have S4 := f4.2.2.2
        have ms := fun i => aS158 (x := i4) hS (d := 0) z32 (by decide) i
        obtain ⟨f6, b1, bb, b2, b3⟩ := F268 (u := u) (P := P) (m := m) (c := c) (fx := 1) (E := sgE a m c) S4 hp (by rw [al_FM f04 (by decide)]; exact hP) hP9 o32 h9 ⟨by omega, by omega⟩ (by omega) h10 (fun i hi => by
          have e : i = 0 := by omega
          rw [ms i, if_pos e, e]
          exact h4) (fun i h1 hi => by unfold sgE; rw [if_neg (by omega)]) (fun i _ => sgE_9 (by omega)) y6
        have f06 := FM_trans f04 f6
        have S6 := f6.2.2.2
        have h := h _ b2 S6
        cases bb with
        | false =>
          rw [if_pos (by decide +kernel)] at h
          exact skip w6 f06 (fun q => Bool.noConfusion (b3.mpr q.2.1)) h
        | true =>
          rw [if_neg (by decide +kernel)] at h
          obtain ⟨r8, w9, y9, h⟩ := h
          obtain ⟨d1, bb, d2, d3⟩ := F269v (E := sgE a m c) S6 hu hp h9 ⟨m2, by omega⟩ h6 b1 (fun i _ => sgE_9 (by omega)) y9
          rw [rmA_fm (u := u) f06 (by decide) (by decide)] at d3
          have h := h _ d2 (by rw [d1]; exact S6)
          rw [d1] at h
          cases bb with
          | false =>
            rw [if_pos (by decide +kernel)] at h
            exact skip w6 f06 (fun q => Bool.noConfusion (d3.mpr q.2.2)) h
          | true =>
            rw [if_neg (by decide +kernel)] at h
            exact ih61 w6 m (c + 1) _ i9 _ f06 h9 m2 mM e10 clt (by rw [a1, h8, s1, sgI_t ⟨m2, b3.mp rfl, d3.mp rfl⟩]; omega) h
theorem F151 (hS : SK w) (h0 : gR w 33 0 = v) (okv : okV v = true) (v30 : v < 30) (hP : (gI w v 0).toInt = P) (hP9 : P ≤ 9) (hR : ∀ i j, i < 9 → j < 9 → R i j = (rmI (vcl w v) (dA w 33) i j).toInt) (h2 : p2.toInt = a) (ha : a < P) (h3 : p3.toInt = M) (hM : 2 ≤ M ∧ M ≤ 6) (h4 : p4.toInt = y) (h : PS X k 151 0 [.ref 55, .ref 33, .int p2, .int p3, .int p4] [] w r w') : FM [(55, 0), (55, 2)] [66] w w' ∧ ∃ z : Int32, r = some (.int z) ∧ z.toInt = sgC R P y a (M - 1) 1 0 := by
  cases k with
  | zero => exact (PS_0 h).elim
  | succ k =>
    have h := U151_0 hS h _ rfl _ rfl
    obtain ⟨_, h⟩ := h
    have h := h _ rfl
    have f1 : FM [(55, 0), (55, 2)] [66] w (sR w 55 0 33) := FM_sR hS (by decide +kernel) (by decide)
    have S1 := f1.2.2.2
    have f2 : FM [(55, 0), (55, 2)] [66] (sR w 55 0 33) (sI (sR w 55 0 33) 55 2 p4) := FM_sI S1 (by decide)
    have S2 := f2.2.2.2
    have f3 : FM [(55, 0), (55, 2)] [66] (sI (sR w 55 0 33) 55 2 p4) (aS (sI (sR w 55 0 33) 55 2 p4) 66 0 p2) := FM_aS S2 (by decide)
    have S3 := f3.2.2.2
    have ft := FM_trans f1 (FM_trans f2 f3)
    obtain ⟨r4, w5, y5, h⟩ := h
    have n55 : v ≠ 55 := by omega
    have g55 : gR (aS (sI (sR w 55 0 33) 55 2 p4) 66 0 p2) 55 0 = 33 := by
      rw [gR_aS, gR_sI, gR_sR hS (by decide +kernel)]
    have gy : (gI (aS (sI (sR w 55 0 33) 55 2 p4) 66 0 p2) 55 2).toInt = y := by
      rw [gI_aS, gI_sI (SK_isF S1 (by decide +kernel))]
      exact h4
    have hC : sgS (aS (sI (sR w 55 0 33) 55 2 p4) 66 0 p2) v P y := ⟨g55, by rw [FM_r ft (by decide)]; exact h0, by rw [FM_i ft (by simp <;> omega)]; exact hP, hP9, gy⟩
    have hel : ∀ i, i < 1 → sgE a 1 0 i = a := fun i hi => by rw [show i = 0 by omega]; rfl
    have ms := fun i => aS66 (x := p2) S2 (d := 0) z32 (by decide) i
    have a9 : a < 9 := by omega
    have hm : MSK (1 <<< (p2 &&& 31)) 9 (snE (sgE a 1 0) 1) := MSK_cg (MSK_b h2 a9 (by decide)) (fun q _ => by
      rw [snE_s, show snE (sgE a 1 0) 0 q = false from rfl, Bool.false_or]
      rfl)
    obtain ⟨b1, _, z, b3, b4⟩ := (F152_l (a := a) (R := R) (M := M) S3 hC okv v30 (fun i j hi hj => by
      rw [hR i j hi hj, show dA (aS (sI (sR w 55 0 33) 55 2 p4) 66 0 p2) 33 = dA w 33 from by funext q; unfold dA; rw [FM_a ft (by decide)], show vcl (aS (sI (sR w 55 0 33) 55 2 p4) 66 0 p2) v = vcl w v from by
        funext q
        exact vcl_FMv hS ft okv (by simp <;> omega) (by simp <;> omega) (by simp <;> omega) (by simp <;> omega) (by simp <;> omega) (by simp <;> omega) (by simp <;> omega) q]) hM.2 h3 k).1 _ 1 0 1 _ _ _ (FM_refl S3) o32 (Nat.le_refl 1) (by omega) ⟨⟨fun i hi => by rw [hel i hi]; exact ha, fun i j hij hj => by omega⟩, fun i hi => by omega⟩ (fun i hi => by
        rw [ms i, if_pos (by omega), hel i hi]
        exact h2) hm y5
    have h := h _ b3 b1.2.2.2
    rw [h.2]
    exact ⟨FM_trans ft (FM_mono b1 (by intro p hp; cases hp) (fun _ h => h)), z, h.1, b4⟩
theorem RC_29 (h3 : RL3 w) (h1 : PS X k 150 0 [.ref 0, .int p1, .int p2, .int p3, .int p4, .int p5, .int p6] [] w r w1) (h2 : PS X k2 301 0 [.ref 147, .int p1, .int p2, .int p3, .int p4, .int p5, .int p6, pm_dead, pm_dead, pm_dead, pm_dead] [] w1 r2 w2) : r2 = r := by
  have hS := h3.1.1
  have e99 : (99 : Int32).toInt = 99 := by decide +kernel
  have e6 : (6 : Int32).toInt = 6 := by decide +kernel
  cases k with
  | zero => exact (PS_0 h1).elim
  | succ k =>
    cases k2 with
    | zero => exact (PS_0 h2).elim
    | succ k2 =>
      have h1 := U150_0 hS h1
      have no : ¬ ((2 ≤ p5.toInt ∧ p5.toInt ≤ 6) ∧ 0 ≤ p6.toInt ∧ p6.toInt ≤ 99) → r = some (.int (-1)) ∧ w1 = w → r2 = r := by
        rintro hn ⟨a1, a2⟩
        subst w1
        obtain ⟨q6, w6, y6, h2⟩ := U301_0 hS h2
        obtain ⟨S6, e6', x, hx⟩ := F245r hS h3.1.2.1.1 h3.2 y6
        have h2 := h2 _ hx S6
        rw [a1]
        by_cases c0 : x = 0
        · rw [if_pos c0] at h2; exact h2.1
        · rw [if_neg c0] at h2
          have h2 := use_p S6 h2 (fun _ _ y => F199 S6 y)
          rw [isI_t two32 e6] at h2
          by_cases c1 : 2 ≤ p5.toInt ∧ p5.toInt ≤ 6
          · have h2 := ifb_t c1 h2
            have h2 := use_p S6 h2 (fun _ _ y => F199 S6 y)
            rw [isI_t z32 e99] at h2
            exact (ifb_f (fun q => hn ⟨c1, q⟩) h2).1
          · exact (ifb_f c1 h2).1
      by_cases c1 : p5 < 2
      · rw [if_pos c1] at h1
        rw [Int32.lt_iff_toInt_lt, two32] at c1
        exact no (by omega) h1
      · rw [if_neg c1] at h1
        rw [Int32.lt_iff_toInt_lt, two32] at c1
        by_cases c2 : 6 < p5
        · rw [if_pos c2] at h1
          rw [Int32.lt_iff_toInt_lt, e6] at c2
          exact no (by omega) h1
        · rw [if_neg c2] at h1
          rw [Int32.lt_iff_toInt_lt, e6] at c2
          by_cases c3 : p6 < 0
          · rw [if_pos c3] at h1
            rw [Int32.lt_iff_toInt_lt, z32] at c3
            exact no (by omega) h1
          · rw [if_neg c3] at h1
            rw [Int32.lt_iff_toInt_lt, z32] at c3
            by_cases c4 : p6 ≤ 99
            · rw [if_pos c4] at h1
              rw [Int32.le_iff_toInt_le, e99] at c4
              obtain ⟨q1, w3, z, h1⟩ := h1
              obtain ⟨k', q2, zz, alt⟩ := F101 h3 z
              obtain ⟨f1, _⟩ := F98 h3 zz
              have S3 : SK w3 := f1.2.2.2
              have ea := FM_al f1
              have none0 : (q2 = some (.int 0) ∨ ∃ u : Nat, p1.toInt = u ∧ ¬ (0 ≤ p4.toInt ∧ p4.toInt < (Pof (al w) u : Nat))) → q1 = some (.int 0) → r2 = r := by
                intro hq h0
                have h1 := h1 _ h0 S3
                rw [if_pos rfl] at h1
                rw [h1.2] at h2
                obtain ⟨q6, w6, y6, h2⟩ := U301_0 S3 h2
                obtain ⟨S6, e6, alt2⟩ := F245 h3 zz S3 ea y6
                have : q6 = some (.int 0) := by
                  rcases alt2 with ⟨_, x⟩ | ⟨u, t1, t2, b1, b3, b4, b5, b6, b7, b8⟩
                  · exact x
                  · rcases hq with x | ⟨u', x1, x2⟩
                    · rw [b1] at x; exact absurd x i10
                    · have e : u' = u := by omega
                      rw [e] at x2
                      rw [b8, decide_eq_false (fun y => x2 y.1)]; rfl
                have h2 := h2 _ this S6
                rw [if_pos rfl] at h2
                rw [h2.1, h1.1]
              rcases alt with ⟨a0, a1⟩ | ⟨a1, u, s1, a2, a3, a4⟩
              · exact none0 (Or.inl a0) a1
              · by_cases c : 0 ≤ p4.toInt ∧ p4.toInt < (Pof (al w) u : Nat)
                · rw [decide_eq_true c] at a4
                  have h1 := h1 _ a4 S3
                  rw [if_neg (by decide +kernel)] at h1
                  have hu := a2.2.1
                  obtain ⟨v1, _, v3, v2, v4⟩ := VA_v h3.2 hu
                  have u1 : u ≤ 1 := by have := h3.1.2.1.1.2.1; omega
                  have okv := okV_n u1
                  obtain ⟨g1, g2, g3, g4⟩ := CVL h3 hu f1 a3
                  rw [g3] at g1
                  have hd : dA w3 33 = s1.1 := a3.2.2.1
                  obtain ⟨a, ha⟩ : ∃ a : Nat, p4.toInt = a := ⟨p4.toInt.toNat, by omega⟩
                  obtain ⟨M, hM⟩ : ∃ M : Nat, p5.toInt = M := ⟨p5.toInt.toNat, by omega⟩
                  obtain ⟨q4, w5, y5, h1⟩ := h1
                  obtain ⟨f5, zc, b1, b2⟩ := F151 (R := fun i j => (rmI (Vof (al w) u) s1.1 i j).toInt) (a := a) (M := M) (y := p6.toInt) S3 g3 okv (by omega) g1 v1 (fun i j hi hj => by
                    rw [hd]
                    show (rmI (Vof (al w) u) s1.1 i j).toInt = (rmI (vcl w3 (5 + 5 * u)) s1.1 i j).toInt
                    rw [rmI_cg (V := Vof (al w) u) (V' := vcl w3 (5 + 5 * u)) (fun q hq => g4 q hq) hi hj]) ha (by omega) hM (by omega) rfl y5
                  have S5 := f5.2.2.2
                  have h1 := h1 _ b1 S5
                  have e5 : al w5 = al w := by rw [al_FM f5 (by decide), ea]
                  rw [h1.2] at h2
                  obtain ⟨q6, w6, y6, h2⟩ := U301_0 S5 h2
                  obtain ⟨S6, e6', alt2⟩ := F245 h3 zz S5 e5 y6
                  rcases alt2 with ⟨b0, _⟩ | ⟨u', t1, t2, b1', b3, b4, b5, b6, b7, b8⟩
                  · rw [a1] at b0; exact absurd b0 i10
                  · have eu : u' = u := by have := a2.1; omega
                    subst eu
                    rw [decide_eq_true ⟨c, c⟩] at b8
                    have h2 := h2 _ b8 S6
                    rw [if_neg (by decide +kernel)] at h2
                    have h2 := use_p S6 h2 (fun _ _ y => F199 S6 y)
                    rw [isI_t two32 e6] at h2
                    have h2 := ifb_t (by omega) h2
                    have h2 := use_p S6 h2 (fun _ _ y => F199 S6 y)
                    rw [isI_t z32 e99] at h2
                    have h2 := ifb_t (by omega) h2
                    have h2 := use_p S6 h2 (fun _ _ y => F217v S6 b3 u1 y)
                    have ed : dR w6 = s1.1 := by
                      have x1 : dA w3 33 = t1.1 := b6.2.2.1
                      rw [show dR w6 = t2.1 from b7.1, b5.1, ← x1, hd]
                    obtain ⟨zr, d1, d2⟩ := (F301_l (P := Pof (al w) u') (a := a) (M := M) (y := p6.toInt) S6 (plV b3 u1) u1 (by rw [e6']; exact v3) v1 ha (by omega) hM (by omega) rfl k2).1 w6 2 0 2 pm_dead (FM_refl S6) two32 (Nat.le_refl 2) (by omega) (by
                      show (0 : Int32).toInt = 0 + sgR (rmA w6 u') (Pof (al w) u') p6.toInt a 0 + sgR (rmA w6 u') (Pof (al w) u') p6.toInt a 1
                      have z0 : sgR (rmA w6 u') (Pof (al w) u') p6.toInt a 0 = 0 := by
                        show 0 + sgI (rmA w6 u') (Pof (al w) u') p6.toInt a 0 0 = 0
                        rw [sgI_f (fun q => by have := q.1; omega)]
                        rfl
                      have z1 : sgR (rmA w6 u') (Pof (al w) u') p6.toInt a 1 = 0 := by
                        show 0 + sgI (rmA w6 u') (Pof (al w) u') p6.toInt a 1 0 = 0
                        rw [sgI_f (fun q => by have := q.1; omega)]
                        rfl
                      rw [z0, z1, z32]
                      rfl) h2
                    rw [sgR_C (by omega), show rmA w6 u' = fun i j => (rmI (Vof (al w) u') s1.1 i j).toInt from by
                      funext i j
                      unfold rmA
                      rw [ed, e6']
                      rfl] at d2
                    rw [h1.1, d1, Int32.toInt_inj.mp (d2.trans b2.symm)]
                · rw [decide_eq_false c] at a4
                  exact none0 (Or.inr ⟨u, a2.1, c⟩) a4
            · rw [if_neg c4] at h1
              rw [Int32.le_iff_toInt_le, e99] at c4
              exact no (by omega) h1
end JVA
