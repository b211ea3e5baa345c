/-! ===== find ===== -/
section JOA
variable {X : pm_X} {k k2 : Nat} {w0 w w1 w2 w3 w4 w5 w6 w8 wj w' : pm_W} {r r2 q0 q1 q2 : Option Value} {p1 p2 p3 p4 p5 p6 i1 i2 i3 i4 i5 i6 i7 i8 i9 z z1 z2 so x : Int32} {i v j m c u P t s b d p q fx Q I J K T W N κ bm n : Nat} {l l6 l10 : Int64} {e g y : Int} {fe rk : Nat → Int} {E : Nat → Nat} {u9 u10 u12 : Value} {V : Nat → Nat → Prop} {R : Nat → Nat → Int} {a : Nat → Int32} {s1 t1 t2 : SN}
theorem F264_64 (hS : SK w) (h1 : i1.toInt = u) (u1 : u ≤ 1) (hm : (gI w 147 23).toInt = m) (hm6 : 2 ≤ m ∧ m ≤ 6) (hE : ∀ i, i < m → ((gA w 159).getD i 0).toInt = E i) (h9 : ∀ i, i < m → E i < 9) (hb : ∀ x, x < 9 → 0 ≤ feF (al w) u x ∧ feF (al w) u x ≤ 99) : ∀ (k t : Nat) (i7 i8 : Int32), i8.toInt = t → 2 ≤ t → t ≤ m → i7.toInt = suI (fun i => if 2 ≤ i then feF (al w) u (E i) else 0) t → 0 ≤ i7.toInt → i7.toInt ≤ 1000 * t → PS X k 264 64 [.ref 147, .int i1, .int i2, .int i3, .int i4, .int i5, .int i6, .int i7, .int i8] [] w r w' → w' = w ∧ ∃ z : Int32, r = some (.int z) ∧ z.toInt = suI (fun i => if 2 ≤ i then feF (al w) u (E i) else 0) m := by
  have e84 : (84 : Int32).toInt = 84 := by decide +kernel
  intro k
  induction k with
  | zero => intro t i7 i8 _ _ _ _ _ _ h; exact (PS_0 h).elim
  | succ k ih =>
    intro t i7 i8 h8 h2t ht h7 b0 b1 h
    have h := U264_64 hS h
    by_cases c : gI w 147 23 ≤ i8
    · rw [if_pos c] at h
      rw [Int32.le_iff_toInt_le, hm, h8] at c
      exact ⟨h.2, i7, h.1, by rw [h7, show t = m by omega]⟩
    · rw [if_neg c] at h
      rw [Int32.le_iff_toInt_le, hm, h8] at c
      have htm : t < m := by omega
      have h := use_p hS h (fun _ _ y => F217v hS h1 u1 y)
      obtain ⟨_, _, h⟩ := h
      have ev : (aG w 159 i8).toInt = E t := by rw [aG_n h8]; exact hE t htm
      have e9 := h9 t htm
      have fb := hb (E t) e9
      have hp := plV h1 u1
      have ev2 : (aG w 148 ((610 + 132 * i1 + 84) + aG w 159 i8)).toInt = feF (al w) u (E t) := by
        rw [aG_n (m := 694 + 132 * u + E t) (by rw [zi_add (zi_add hp e84 (by omega) (by omega)) ev (by omega) (by omega)]; omega)]
        rfl
      have ea : (i7 + aG w 148 ((610 + 132 * i1 + 84) + aG w 159 i8)).toInt = i7.toInt + feF (al w) u (E t) := zi_add rfl ev2 (by omega) (by omega)
      have s1 : suI (fun i => if 2 ≤ i then feF (al w) u (E i) else 0) (t + 1) = suI (fun i => if 2 ≤ i then feF (al w) u (E i) else 0) t + feF (al w) u (E t) := by
        show _ + (if 2 ≤ t then feF (al w) u (E t) else 0) = _
        rw [if_pos h2t]
      exact ih (t + 1) _ _ (by rw [zi_inc (n := 40) (by omega) (by omega), h8]; rfl) (by omega) (by omega) (by rw [ea, h7, s1]) (by omega) (by omega) h
theorem RC_16 (h3 : RL3 w) (h1 : PS X k 130 0 [.ref 0, .int p1, .int p2, .int p3, .int p4, .int p5, .int p6] [] w r w1) (h2 : PS X k2 264 0 [.ref 147, .int p1, .int p2, .int p3, .int p4, .int p5, .int p6, pm_dead, pm_dead] [] w1 r2 w2) : r2 = r := by
  have hS := h3.1.1
  have e10 : (10 : Int32).toInt = 10 := ten32
  cases k with
  | zero => exact (PS_0 h1).elim
  | succ k =>
    cases k2 with
    | zero => exact (PS_0 h2).elim
    | succ k2 =>
      obtain ⟨q1, w3, z, h1⟩ := U130_0 hS h1
      have no : ∀ w9, SK w9 → q1 = some (.int 0) → w3 = w9 → r = some (.int (-1)) ∧ w1 = w9 := by
        intro w9 S9 hq hw
        have h1 := h1 _ hq (by rw [hw]; exact S9)
        rw [if_pos rfl, hw] at h1
        exact h1
      rcases F131 h3 z with ⟨ns, rq, ew⟩ | ⟨os, k', q4, w4, zz, alt⟩
      · obtain ⟨rr, ww⟩ := no w hS rq ew
        rw [ww] at h2
        have h2 := use_p hS (U264_0 hS h2) (fun _ _ z => F199 hS z)
        rw [isI_t z32 two32] at h2
        have h2 := ifb_f (fun q => ns (okSo_i.mpr q)) h2
        rw [h2.1, rr]
      · obtain ⟨f1, _⟩ := F98 h3 zz
        have S4 : SK w4 := f1.2.2.2
        have ea := FM_al f1
        -- the reference, behind the sort
        have ref : ∀ w9, SK w9 → al w9 = al w → w1 = w9 → ∃ (q6 : Option Value) (w6 : pm_W), PS X k2 265 0 [.ref 147, .int p1, .int p2, .int p3, .int p4] [] w9 q6 w6 ∧ (q6 = some (.int 0) → SK w6 → r2 = some (.int (-1))) ∧ (q6 = some (.int 1) → SK w6 → ∀ u : Nat, p1.toInt = u → u ≤ 1 → ∃ (r10 : Option Value) (w11 : pm_W), PS X k2 266 0 [.ref 147, .int (610 + 132 * p1), .int p4, .int p5, .int (-1), .int 0, pm_dead, pm_dead, pm_dead, pm_dead, pm_dead, pm_dead, pm_dead] [] w6 r10 w11 ∧ (∀ x12 : Int32, r10 = some (.int x12) → SK w11 → (if x12 = 0 then (r2 = some (.int (-1)) ∧ w2 = w11) else (if p6 = 0 then (r2 = some (.int (gI w11 147 23)) ∧ w2 = w11) else (if p6 = 1 then (PS X k2 264 64 [.ref 147, .int p1, .int p2, .int p3, .int p4, .int p5, .int p6, .int 0, .int 2] [] w11 r2 w2) else (∃ (r13 : Option Value) (w14 : pm_W), PS X k2 199 0 [.int p6, .int 10, .int (9 + (gI w11 147 23))] [] w11 r13 w14 ∧ (∀ x15 : Int32, r13 = some (.int x15) → SK w14 → (if x15 = 0 then (r2 = some (.int (-1)) ∧ w2 = w14) else (aI w14 159 (p6 - 10) ∧ (r2 = some (.int (aG w14 159 (p6 - 10))) ∧ w2 = w14)))))))))) := by
          intro w9 S9 e9 hw
          rw [hw] at h2
          have h2 := use_p S9 (U264_0 S9 h2) (fun _ _ z => F199 S9 z)
          rw [isI_t z32 two32] at h2
          have h2 := ifb_t (okSo_i.mp os) h2
          obtain ⟨q6, w6, y6, h2⟩ := h2
          refine ⟨q6, w6, y6, fun hq S6 => ?_, fun hq S6 u hu u1 => ?_⟩
          · have h2 := h2 _ hq S6
            rw [if_pos rfl] at h2
            exact h2.1
          · have h2 := h2 _ hq S6
            rw [if_neg (by decide +kernel)] at h2
            exact use_p S6 h2 (fun _ _ y => F217v S6 hu u1 y)
        rcases alt with ⟨a1, b1, b2⟩ | ⟨a1, u, s1, a2, a3, ⟨b1, b2, b3⟩ | ⟨κ, hκ, hκW, f5, hb, hres⟩⟩
        · obtain ⟨rr, ww⟩ := no w4 S4 b1 b2
          obtain ⟨q6, w6, y6, g0, _⟩ := ref w4 S4 ea ww
          obtain ⟨S6, e6, alt2⟩ := F265 h3 zz S4 ea y6
          rcases alt2 with ⟨_, x⟩ | ⟨u, t1, t2, x, _⟩
          · rw [rr, g0 x S6]
          · rw [a1] at x; exact absurd x.symm i10
        · obtain ⟨rr, ww⟩ := no w4 S4 b2 b3
          obtain ⟨q6, w6, y6, g0, _⟩ := ref w4 S4 ea ww
          obtain ⟨S6, e6, alt2⟩ := F265 h3 zz S4 ea y6
          rcases alt2 with ⟨_, x⟩ | ⟨u', t1, t2, _, hLD, x⟩
          · rw [rr, g0 x S6]
          · have eu : u' = u := by have := hLD.1; have := a2.1; omega
            rw [eu] at x
            rw [decide_eq_false b1] at x
            rw [rr, g0 x S6]
        · have S3 := f5.2.2.2
          have hu := a2.2.1
          obtain ⟨fb, rb⟩ := VA_f h3.2 hu
          have e3 : al w3 = al w := by rw [al_FM f5 (by decide), ea]
          -- the class's world behind the call
          have hw1 : w1 = w3 := by
            rcases hres with ⟨_, g2⟩ | ⟨g1, g2⟩
            · exact (no w3 S3 g2 rfl).2
            · have h1 := h1 _ g2 S3
              rw [if_neg (by decide +kernel)] at h1
              by_cases c0 : p6 = 0
              · rw [if_pos c0] at h1; exact h1.2
              · rw [if_neg c0] at h1
                by_cases c1 : p6 = 1
                · rw [if_pos c1] at h1; exact h1.2
                · rw [if_neg c1] at h1
                  by_cases c2 : p6 < 10
                  · rw [if_pos c2] at h1; exact h1.2
                  · rw [if_neg c2] at h1
                    by_cases c3 : p6 < 10 + gI w3 55 6
                    · rw [if_pos c3] at h1; exact h1.2.2
                    · rw [if_neg c3] at h1; exact h1.2
          obtain ⟨q6, w6, y6, _, g1⟩ := ref w3 S3 e3 hw1
          obtain ⟨S6, e6, alt2⟩ := F265 h3 zz S3 e3 y6
          rcases alt2 with ⟨x, _⟩ | ⟨u', t1, t2, _, hLD, x⟩
          · rw [a1] at x; exact absurd x i10
          · have eu : u' = u := by have := hLD.1; have := a2.1; omega
            subst eu
            obtain ⟨d3, d4, d5, d6, d7, d8, d9⟩ := id hLD
            rw [decide_eq_true (show 0 ≤ p4.toInt ∧ p4.toInt < (Wof (al w) u' : Nat) by omega)] at x
            obtain ⟨q8, w8, y8, h2⟩ := g1 x S6 u' d3 d5
            have ed : dR w6 = s1.1 := by
              have x1 : dA w4 33 = t1.1 := d7.2.2.1
              rw [show dR w6 = t2.1 from d8.1, d6.1, ← x1]
              exact a3.2.2.1
            have era : rmA w6 u' = fun i j => (rmI (Vof (al w) u') s1.1 i j).toInt := by
              funext i j
              unfold rmA
              rw [ed, e6]
              rfl
            obtain ⟨v1, _⟩ := VA_v h3.2 hu
            obtain ⟨f8, hr, hres2⟩ := F266 (fe := feF (al w) u') S6 (by rw [e6]; exact h3.2) (by rw [e6]; exact hu) d5 (plV d3 d5) hκ (by rw [e6]; exact hκW) os (fun x _ => by rw [if_neg (by rw [m1i]; omega), e6]; rfl) (fun x hx => by rw [e6] at hx; have := fb x (by omega); omega) y8
            rw [era, e6] at hr
            have S8 := f8.2.2.2
            have e8 : al w8 = al w := by rw [al_FM f8 (by decide), e6]
            rcases both hb hr with ⟨n1, n2⟩ | ⟨m, c, hm, n1, n2, n3, n4, n5, n6⟩
            · have rq : q1 = some (.int 0) := by
                rcases hres with ⟨_, g⟩ | ⟨g, _⟩
                · exact g
                · omega
              have rq2 : q8 = some (.int 0) := by
                rcases hres2 with ⟨_, g⟩ | ⟨g, _⟩
                · exact g
                · omega
              have h2 := h2 _ rq2 S8
              rw [if_pos rfl] at h2
              rw [h2.1, (no w3 S3 rq rfl).1]
            · have rq : q1 = some (.int 1) := by
                rcases hres with ⟨g, _⟩ | ⟨_, g⟩
                · omega
                · exact g
              have rq2 : q8 = some (.int 1) := by
                rcases hres2 with ⟨g, _⟩ | ⟨_, g⟩
                · omega
                · exact g
              have h1 := h1 _ rq S3
              rw [if_neg (by decide +kernel)] at h1
              have h2 := h2 _ rq2 S8
              rw [if_neg (by decide +kernel)] at h2
              by_cases c0 : p6 = 0
              · rw [if_pos c0] at h1 h2
                rw [h1.1, h2.1, Int32.toInt_inj.mp (n2.trans n1.symm)]
              · rw [if_neg c0] at h1 h2
                by_cases c1 : p6 = 1
                · rw [if_pos c1] at h1 h2
                  obtain ⟨_, zc, o1, o2⟩ := F264_64 (E := elN (wAf (al w) u' κ) (wBf (al w) u' κ) m c) S8 d3 d5 n2 hm n4 (fun i hi => by have := (n3 i hi).2; omega) (by rw [e8]; exact fb) k2 2 0 2 two32 (Nat.le_refl 2) hm.1 z32 (by rw [z32]; omega) (by rw [z32]; omega) h2
                  rw [e8] at o2
                  rw [h1.1, o1, Int32.toInt_inj.mp (o2.trans n5.symm)]
                · rw [if_neg c1] at h1 h2
                  have h2 := use_p S8 h2 (fun _ _ z => F199 S8 z)
                  rw [isI_t e10 (zi_add (show (9 : Int32).toInt = 9 from nine32) n2 (by omega) (by omega))] at h2
                  by_cases c2 : p6 < 10
                  · rw [if_pos c2] at h1
                    rw [Int32.lt_iff_toInt_lt, e10] at c2
                    have h2 := ifb_f (by omega) h2
                    rw [h1.1, h2.1]
                  · rw [if_neg c2] at h1
                    rw [Int32.lt_iff_toInt_lt, e10] at c2
                    by_cases c3 : p6 < 10 + gI w3 55 6
                    · rw [if_pos c3] at h1
                      rw [Int32.lt_iff_toInt_lt, zi_add e10 n1 (by omega) (by omega)] at c3
                      have h2 := ifb_t (by omega) h2
                      have es : (p6 - 10).toInt = (p6.toInt.toNat - 10 : Nat) := by rw [zi_sub rfl e10 (by omega) (by omega)]; omega
                      have v1 : (aG w3 67 (p6 - 10)).toInt = elN (wAf (al w) u' κ) (wBf (al w) u' κ) m c (p6.toInt.toNat - 10) := by rw [aG_n es]; exact (n3 _ (by omega)).1
                      have v2 : (aG w8 159 (p6 - 10)).toInt = elN (wAf (al w) u' κ) (wBf (al w) u' κ) m c (p6.toInt.toNat - 10) := by rw [aG_n es]; exact n4 _ (by omega)
                      rw [h1.2.1, h2.2.1, Int32.toInt_inj.mp (v2.trans v1.symm)]
                    · rw [if_neg c3] at h1
                      rw [Int32.lt_iff_toInt_lt, zi_add e10 n1 (by omega) (by omega)] at c3
                      have h2 := ifb_f (by omega) h2
                      rw [h1.1, h2.1]
end JOA
