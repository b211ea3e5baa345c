/-! ===== stands ===== -/
section JPA
variable {X : pm_X} {k k2 : Nat} {w0 w w1 w2 w3 w4 w5 w6 w8 wj w' : pm_W} {r r2 q0 q1 q2 : Option Value} {p1 p2 p3 p4 p5 p6 i1 i2 i3 i4 i5 i6 i7 i8 i9 z z1 z2 so x : Int32} {i v j m c u P t s b d p q fx Q I J K T W N κ bm n : Nat} {l l6 l10 : Int64} {e g y : Int} {fe rk : Nat → Int} {E : Nat → Nat} {u9 u10 u12 : Value} {V : Nat → Nat → Prop} {R : Nat → Nat → Int} {a : Nat → Int32} {s1 t1 t2 : SN}
theorem F272_50 (hS : SK w) (h1 : i1.toInt = u) (u1 : u ≤ 1) (hm : (gI w 147 23).toInt = m) (hm6 : 2 ≤ m ∧ m ≤ 6) (hE : ∀ i, i < m → ((gA w 159).getD i 0).toInt = E i) (h9 : ∀ i, i < m → E i < 9) (hb : ∀ x, x < 9 → 0 ≤ rkF (al w) u x ∧ rkF (al w) u x ≤ 100) : ∀ (k t : Nat) (l7 : Int64) (i9 : Int32), i9.toInt = t → t ≤ m → l7.toInt = (if i6 = 0 then prI (fun i => 100 - rkF (al w) u (E i)) t else (100 : Int) ^ t) → PS X k 272 50 [.ref 147, .int i1, .int i2, .int i3, .int i4, .int i5, .int i6, .long l7, pm_dead, .int i9] [] w r w' → w' = w ∧ ∃ l : Int64, r = some (.long l) ∧ l.toInt = (if i6 = 0 then prI (fun i => 100 - rkF (al w) u (E i)) m else (100 : Int) ^ m) := by
  have e93 : (93 : Int32).toInt = 93 := by decide +kernel
  have e100 : (100 : Int32).toInt = 100 := by decide +kernel
  intro k
  induction k with
  | zero => intro t l7 i9 _ _ _ h; exact (PS_0 h).elim
  | succ k ih =>
    intro t l7 i9 h9' ht hl h
    have h := U272_50 hS h
    by_cases c : gI w 147 23 ≤ i9
    · rw [if_pos c] at h
      rw [Int32.le_iff_toInt_le, hm, h9'] at c
      exact ⟨h.2, l7, h.1, by rw [hl, show t = m by omega]⟩
    · rw [if_neg c] at h
      rw [Int32.le_iff_toInt_le, hm, h9'] at c
      have htm : t < m := by omega
      have e1 : (i9 + 1).toInt = ((t + 1 : Nat) : Int) := by rw [zi_inc (n := 40) (by omega) (by omega), h9']; rfl
      have p12 := pow100 (t + 1) (by omega)
      by_cases c6 : i6 = 0
      · rw [if_pos c6] at h hl
        have h := use_p hS h (fun _ _ y => F217v hS h1 u1 y)
        obtain ⟨_, _, h⟩ := h
        have ev : (aG w 159 i9).toInt = E t := by rw [aG_n h9']; exact hE t htm
        have e9 := h9 t htm
        have rb := hb (E t) e9
        have hp := plV h1 u1
        have ev2 : (aG w 148 ((610 + 132 * i1 + 93) + aG w 159 i9)).toInt = rkF (al w) u (E t) := by
          rw [aG_n (m := 703 + 132 * u + E t) (by rw [zi_add (zi_add hp e93 (by omega) (by omega)) ev (by omega) (by omega)]; omega)]
          rfl
        have v4 : ((100 - aG w 148 ((610 + 132 * i1 + 93) + aG w 159 i9)).toInt64).toInt = 100 - rkF (al w) u (E t) := by rw [Int32.toInt_toInt64, zi_sub e100 ev2 (by omega) (by omega)]
        have pb := pr_b (f := fun i => 100 - rkF (al w) u (E i)) (m := m) (fun i hi => by have := hb (E i) (h9 i hi); show 0 ≤ 100 - rkF (al w) u (E i) ∧ 100 - rkF (al w) u (E i) ≤ 100; omega) (t + 1) (by omega)
        have s1 : prI (fun i => 100 - rkF (al w) u (E i)) (t + 1) = prI (fun i => 100 - rkF (al w) u (E i)) t * (100 - rkF (al w) u (E t)) := rfl
        rw [s1] at pb
        exact ih (t + 1) _ _ e1 (by omega) (by rw [if_pos c6, s1]; exact lg_mul hl v4 pb.1 (Int.le_trans pb.2 p12.1)) h
      · rw [if_neg c6] at h hl
        rw [Int.pow_succ] at p12
        exact ih (t + 1) _ _ e1 (by omega) (by rw [if_neg c6, Int.pow_succ]; exact lg_mul hl l100_64 (by omega) p12.1) h
theorem RC_17 (h3 : RL3 w) (h1 : PS X k 139 0 [.ref 0, .int p1, .int p2, .int p3, .int p4, .int p5, .int p6] [] w r w1) (h2 : PS X k2 272 0 [.ref 147, .int p1, .int p2, .int p3, .int p4, .int p5, .int p6, pm_dead, pm_dead, pm_dead] [] w1 r2 w2) : r2 = r := by
  have hS := h3.1.1
  have e10 : (10 : Int32).toInt = 10 := ten32
  cases k with
  | zero => exact (PS_0 h1).elim
  | succ k =>
    cases k2 with
    | zero => exact (PS_0 h2).elim
    | succ k2 =>
      obtain ⟨q1, w3, z, h1⟩ := U139_0 hS h1
      have no : ∀ w9, SK w9 → q1 = some (.int 0) → w3 = w9 → r = some (.long (-1)) ∧ w1 = w9 := by
        intro w9 S9 hq hw
        have h1 := h1 _ hq (by rw [hw]; exact S9)
        rw [if_pos rfl, hw] at h1
        exact h1
      rcases F131 h3 z with ⟨ns, rq, ew⟩ | ⟨os, k', q4, w4, zz, alt⟩
      · obtain ⟨rr, ww⟩ := no w hS rq ew
        rw [ww] at h2
        have h2 := use_p hS (U272_0 hS h2) (fun _ _ z => F199 hS z)
        rw [isI_t z32 two32] at h2
        have h2 := ifb_f (fun q => ns (okSo_i.mpr q)) h2
        rw [h2.1, rr]
      · obtain ⟨f1, _⟩ := F98 h3 zz
        have S4 : SK w4 := f1.2.2.2
        have ea := FM_al f1
        -- the reference, behind the sort
        have ref : ∀ w9, SK w9 → al w9 = al w → w1 = w9 → ∃ (q6 : Option Value) (w6 : pm_W), PS X k2 265 0 [.ref 147, .int p1, .int p2, .int p3, .int p4] [] w9 q6 w6 ∧ (q6 = some (.int 0) → SK w6 → r2 = some (.long (-1))) ∧ (q6 = some (.int 1) → SK w6 → ∀ u : Nat, p1.toInt = u → u ≤ 1 → ∃ (r10 : Option Value) (w11 : pm_W), PS X k2 266 0 [.ref 147, .int (610 + 132 * p1), .int p4, .int p5, .int (-1), .int 0, pm_dead, pm_dead, pm_dead, pm_dead, pm_dead, pm_dead, pm_dead] [] w6 r10 w11 ∧ (∀ x12 : Int32, r10 = some (.int x12) → SK w11 → (if x12 = 0 then (r2 = some (.long (-1)) ∧ w2 = w11) else (PS X k2 272 50 [.ref 147, .int p1, .int p2, .int p3, .int p4, .int p5, .int p6, .long 1, pm_dead, .int 0] [] w11 r2 w2)))) := by
          intro w9 S9 e9 hw
          rw [hw] at h2
          have h2 := use_p S9 (U272_0 S9 h2) (fun _ _ z => F199 S9 z)
          rw [isI_t z32 two32] at h2
          have h2 := ifb_t (okSo_i.mp os) h2
          obtain ⟨q6, w6, y6, h2⟩ := h2
          refine ⟨q6, w6, y6, fun hq S6 => ?_, fun hq S6 u hu u1 => ?_⟩
          · have h2 := h2 _ hq S6
            rw [if_pos rfl] at h2
            exact h2.1
          · have h2 := h2 _ hq S6
            rw [if_neg (by decide +kernel)] at h2
            exact use_p S6 h2 (fun _ _ y => F217v S6 hu u1 y)
        rcases alt with ⟨a1, b1, b2⟩ | ⟨a1, u, s1, a2, a3, ⟨b1, b2, b3⟩ | ⟨κ, hκ, hκW, f5, hb, hres⟩⟩
        · obtain ⟨rr, ww⟩ := no w4 S4 b1 b2
          obtain ⟨q6, w6, y6, g0, _⟩ := ref w4 S4 ea ww
          obtain ⟨S6, e6, alt2⟩ := F265 h3 zz S4 ea y6
          rcases alt2 with ⟨_, x⟩ | ⟨u, t1, t2, x, _⟩
          · rw [rr, g0 x S6]
          · rw [a1] at x; exact absurd x.symm i10
        · obtain ⟨rr, ww⟩ := no w4 S4 b2 b3
          obtain ⟨q6, w6, y6, g0, _⟩ := ref w4 S4 ea ww
          obtain ⟨S6, e6, alt2⟩ := F265 h3 zz S4 ea y6
          rcases alt2 with ⟨_, x⟩ | ⟨u', t1, t2, _, hLD, x⟩
          · rw [rr, g0 x S6]
          · have eu : u' = u := by have := hLD.1; have := a2.1; omega
            rw [eu] at x
            rw [decide_eq_false b1] at x
            rw [rr, g0 x S6]
        · have S3 := f5.2.2.2
          have hu := a2.2.1
          obtain ⟨fb, rb⟩ := VA_f h3.2 hu
          have e3 : al w3 = al w := by rw [al_FM f5 (by decide), ea]
          -- the class's world behind the call
          have hw1 : w1 = w3 := by
            rcases hres with ⟨_, g2⟩ | ⟨g1, g2⟩
            · exact (no w3 S3 g2 rfl).2
            · have h1 := h1 _ g2 S3
              rw [if_neg (by decide +kernel)] at h1
              by_cases c0 : p6 = 0
              · rw [if_pos c0] at h1; exact h1.2
              · rw [if_neg c0] at h1
                obtain ⟨q4, w5, y5, h1⟩ := h1
                have hm := hb
                rcases hm with ⟨g, _⟩ | ⟨m, c, _, hm, n1, _⟩
                · omega
                · obtain ⟨l, l1, l2, l3⟩ := F138 (t := m) S3 n1 hm.2 y5
                  have h1 := h1 _ l2 (by rw [l3]; exact S3)
                  rw [h1.2, l3]
          obtain ⟨q6, w6, y6, _, g1⟩ := ref w3 S3 e3 hw1
          obtain ⟨S6, e6, alt2⟩ := F265 h3 zz S3 e3 y6
          rcases alt2 with ⟨x, _⟩ | ⟨u', t1, t2, _, hLD, x⟩
          · rw [a1] at x; exact absurd x i10
          · have eu : u' = u := by have := hLD.1; have := a2.1; omega
            subst eu
            obtain ⟨d3, d4, d5, d6, d7, d8, d9⟩ := id hLD
            rw [decide_eq_true (show 0 ≤ p4.toInt ∧ p4.toInt < (Wof (al w) u' : Nat) by omega)] at x
            obtain ⟨q8, w8, y8, h2⟩ := g1 x S6 u' d3 d5
            have ed : dR w6 = s1.1 := by
              have x1 : dA w4 33 = t1.1 := d7.2.2.1
              rw [show dR w6 = t2.1 from d8.1, d6.1, ← x1]
              exact a3.2.2.1
            have era : rmA w6 u' = fun i j => (rmI (Vof (al w) u') s1.1 i j).toInt := by
              funext i j
              unfold rmA
              rw [ed, e6]
              rfl
            obtain ⟨v1, _⟩ := VA_v h3.2 hu
            obtain ⟨f8, hr, hres2⟩ := F266 (fe := feF (al w) u') S6 (by rw [e6]; exact h3.2) (by rw [e6]; exact hu) d5 (plV d3 d5) hκ (by rw [e6]; exact hκW) os (fun x _ => by rw [if_neg (by rw [m1i]; omega), e6]; rfl) (fun x hx => by rw [e6] at hx; have := fb x (by omega); omega) y8
            rw [era, e6] at hr
            have S8 := f8.2.2.2
            have e8 : al w8 = al w := by rw [al_FM f8 (by decide), e6]
            rcases both hb hr with ⟨n1, n2⟩ | ⟨m, c, hm, n1, n2, n3, n4, n5, n6⟩
            · have rq : q1 = some (.int 0) := by
                rcases hres with ⟨_, g⟩ | ⟨g, _⟩
                · exact g
                · omega
              have rq2 : q8 = some (.int 0) := by
                rcases hres2 with ⟨_, g⟩ | ⟨g, _⟩
                · exact g
                · omega
              have h2 := h2 _ rq2 S8
              rw [if_pos rfl] at h2
              rw [h2.1, (no w3 S3 rq rfl).1]
            · have rq : q1 = some (.int 1) := by
                rcases hres with ⟨g, _⟩ | ⟨_, g⟩
                · omega
                · exact g
              have rq2 : q8 = some (.int 1) := by
                rcases hres2 with ⟨g, _⟩ | ⟨_, g⟩
                · omega
                · exact g
              have h1 := h1 _ rq S3
              rw [if_neg (by decide +kernel)] at h1
              have h2 := h2 _ rq2 S8
              rw [if_neg (by decide +kernel)] at h2
              obtain ⟨_, lz, o1, o2⟩ := F272_50 (E := elN (wAf (al w) u' κ) (wBf (al w) u' κ) m c) S8 d3 d5 n2 hm n4 (fun i hi => by have := (n3 i hi).2; omega) (by rw [e8]; exact rb) k2 0 1 0 z32 (Nat.zero_le _) (by rw [l1_64]; split <;> rfl) h2
              rw [e8] at o2
              by_cases c0 : p6 = 0
              · rw [if_pos c0] at h1 o2
                rw [h1.1, o1, Int64.toInt_inj.mp (o2.trans n6.symm)]
              · rw [if_neg c0] at h1 o2
                obtain ⟨q4, w5, y5, h1⟩ := h1
                obtain ⟨l, l1, l2, l3⟩ := F138 (t := m) S3 n1 hm.2 y5
                have h1 := h1 _ l2 (by rw [l3]; exact S3)
                rw [h1.1, o1, Int64.toInt_inj.mp (o2.trans l1.symm)]
end JPA
