/-! ===== take, asked on both sides ===== -/
section HWT
variable {X : pm_X} {k k2 : Nat} {w0 w w1 w2 w3 w4 w' : pm_W} {r r2 q1 q2 : Option Value} {p p1 p2 p3 p4 p5 p6 i1 i2 i3 sl x y z z1 z2 : Int32} {n i v j m u u2 P t s a b Q B rr len o3 N K S : Nat} {V V' D E G G1 G2 : Nat → Int32} {s0 s1 s2 t1 t2 : SN} {c d f g : Nat → Bool}
theorem F154 (hS : SK w) (hP9 : P ≤ 9) (hv : gR w 33 0 = v) (hP : (gI w v 0).toInt = P) (hm2 : 2 ≤ m) (hm : m ≤ 6) (h1 : p1.toInt = m) (h : PS X k 154 0 [.ref 0, .int p1, .int p2, pm_dead, pm_dead, pm_dead, pm_dead] [] w r w') : FM [] [86] w w' ∧ ((∃ n : Nat, p2.toInt = n ∧ FIG P m n ∧ r = some (.int 1) ∧ ∀ j, j < m → (gA w' 86).getD j 0 = digE n m (3 + j)) ∨ ((¬ ∃ n : Nat, p2.toInt = n ∧ FIG P m n) ∧ r = some (.int 0))) := by
  cases k with
  | zero => exact (PS_0 h).elim
  | succ k =>
    have h := U154_0 hS h
    by_cases c : 0 ≤ p2
    · rw [if_pos c] at h
      rw [Int32.le_iff_toInt_le, z32] at c
      obtain ⟨n, hn⟩ : ∃ n : Nat, p2.toInt = n := ⟨p2.toInt.toNat, by omega⟩
      obtain ⟨f, alt⟩ := F154_16 (n := n) hP9 hv hP hm _ 0 w _ _ _ _ (FM_refl hS) (by rw [zi_sub h1 o32 (by omega) (by omega)]; omega) (Nat.zero_le _) hn (MSK_z (fun b _ => rfl)) (fun s hs => absurd hs (Nat.not_lt_zero s)) (fun s hs => absurd hs (Nat.not_lt_zero s)) h
      refine ⟨f, ?_⟩
      rcases alt with ⟨a1, a2, a3⟩ | ⟨a1, a2⟩
      · refine Or.inl ⟨n, hn, a1, a2, fun j hj => ?_⟩
        have q := a3 (m - 1 - j) (by omega)
        rw [show m - 1 - (m - 1 - j) = j by omega] at q
        rw [q]
        unfold digE
        rw [show 3 + j - 3 = j by omega]
      · refine Or.inr ⟨?_, a2⟩
        rintro ⟨n', e, f'⟩
        have : n' = n := by omega
        rw [this] at f'
        exact a1 f'
    · rw [if_neg c] at h
      rw [Int32.le_iff_toInt_le, z32] at c
      rw [h.2]
      exact ⟨FM_refl hS, Or.inr ⟨fun ⟨n, e, _⟩ => by omega, h.1⟩⟩
/-- the reference, behind the load -/
theorem F314 (hS : SK w) (hu : p1.toInt = u) (hu1 : u ≤ 1) (hP9 : P ≤ 9) (hP : (al w (610 + 132 * u)).toInt = P) (hm2 : 2 ≤ m) (hm : m ≤ 6) (h4 : p4.toInt = m) (h6 : 1 ≤ p6.toInt ∧ p6.toInt ≤ 99) (h : ∃ (r4 : Option Value) (w5 : pm_W), PS X k 199 0 [.int p4, .int 2, .int 6] [] w r4 w5 ∧ (∀ x6 : Int32, r4 = some (.int x6) → SK w5 → (if x6 = 0 then (r = some (.int (-1)) ∧ w' = w5) else (if p5 < 0 then (r = some (.int (-1)) ∧ w' = w5) else (∃ (r7 : Option Value) (w8 : pm_W), PS X k 199 0 [.int p6, .int 1, .int 99] [] w5 r7 w8 ∧ (∀ x9 : Int32, r7 = some (.int x9) → SK w8 → (if x9 = 0 then (r = some (.int (-1)) ∧ w' = w8) else (∃ (r10 : Option Value) (w11 : pm_W), PS X k 217 0 [.int 0, .int p1] [] w8 r10 w11 ∧ (∀ x12 : Int32, r10 = some (.int x12) → SK w11 → (PS X k 314 59 [.ref 147, .int p1, .int p2, .int p3, .int p4, .int p5, .int p6, .int x12, .int p5, .int 0, .int (p4 - 1)] [] w11 r w')))))))))) : (∃ n : Nat, p5.toInt = n ∧ FIG P m n ∧ ((fitS P (fun k => al w (610 + 132 * u + k)) (dR w) (digE n m) m p6 ∧ r = some (.int 1)) ∨ (¬ fitS P (fun k => al w (610 + 132 * u + k)) (dR w) (digE n m) m p6 ∧ r = some (.int 0)))) ∨ ((¬ ∃ n : Nat, p5.toInt = n ∧ FIG P m n) ∧ r = some (.int (-1))) := by
  have e6 : (6 : Int32).toInt = 6 := by decide +kernel
  have e99 : (99 : Int32).toInt = 99 := by decide +kernel
  have h := use_p hS h (fun _ _ y => F199 hS y)
  rw [isI_t two32 e6] at h
  have h := ifb_t (show 2 ≤ p4.toInt ∧ p4.toInt ≤ 6 from ⟨by omega, by omega⟩) h
  by_cases c : p5 < 0
  · rw [if_pos c] at h
    rw [Int32.lt_iff_toInt_lt, z32] at c
    exact Or.inr ⟨fun ⟨n, e, _⟩ => by omega, h.1⟩
  · rw [if_neg c] at h
    rw [Int32.lt_iff_toInt_lt, z32] at c
    have h := use_p hS h (fun _ _ y => F199 hS y)
    rw [isI_t o32 e99] at h
    have h := ifb_t h6 h
    have h := use_p hS h (fun _ _ y => F217v hS hu hu1 y)
    obtain ⟨n, hn⟩ : ∃ n : Nat, p5.toInt = n := ⟨p5.toInt.toNat, by omega⟩
    rcases F314_59 (n := n) hu1 (plV hu hu1) hP9 hP hm2 hm h4 _ 0 w _ _ _ (FM_refl hS) (by rw [zi_sub h4 o32 (by omega) (by omega)]; omega) (Nat.zero_le _) hn (MSK_z (fun b _ => rfl)) (fun s hs => absurd hs (Nat.not_lt_zero s)) (fun s hs => absurd hs (Nat.not_lt_zero s)) h with ⟨a1, a2⟩ | ⟨a1, a2⟩
    · exact Or.inl ⟨n, hn, a1, a2⟩
    · refine Or.inr ⟨?_, a2⟩
      rintro ⟨n', e, f'⟩
      have : n' = n := by omega
      rw [this] at f'
      exact a1 f'
/-- the reference answers -1 where the sizes aren't right -/
theorem F314_no (hS : SK w) (hn : ¬ ((2 ≤ p4.toInt ∧ p4.toInt ≤ 6) ∧ (1 ≤ p6.toInt ∧ p6.toInt ≤ 99))) (h : ∃ (r4 : Option Value) (w5 : pm_W), PS X k 199 0 [.int p4, .int 2, .int 6] [] w r4 w5 ∧ (∀ x6 : Int32, r4 = some (.int x6) → SK w5 → (if x6 = 0 then (r = some (.int (-1)) ∧ w' = w5) else (if p5 < 0 then (r = some (.int (-1)) ∧ w' = w5) else (∃ (r7 : Option Value) (w8 : pm_W), PS X k 199 0 [.int p6, .int 1, .int 99] [] w5 r7 w8 ∧ (∀ x9 : Int32, r7 = some (.int x9) → SK w8 → (if x9 = 0 then (r = some (.int (-1)) ∧ w' = w8) else (∃ (r10 : Option Value) (w11 : pm_W), PS X k 217 0 [.int 0, .int p1] [] w8 r10 w11 ∧ (∀ x12 : Int32, r10 = some (.int x12) → SK w11 → (PS X k 314 59 [.ref 147, .int p1, .int p2, .int p3, .int p4, .int p5, .int p6, .int x12, .int p5, .int 0, .int (p4 - 1)] [] w11 r w')))))))))) : r = some (.int (-1)) := by
  have e6 : (6 : Int32).toInt = 6 := by decide +kernel
  have e99 : (99 : Int32).toInt = 99 := by decide +kernel
  have h := use_p hS h (fun _ _ y => F199 hS y)
  rw [isI_t two32 e6] at h
  by_cases d : 2 ≤ p4.toInt ∧ p4.toInt ≤ 6
  · have h := ifb_t d h
    by_cases c : p5 < 0
    · rw [if_pos c] at h
      exact h.1
    · rw [if_neg c] at h
      have h := use_p hS h (fun _ _ y => F199 hS y)
      rw [isI_t o32 e99] at h
      have h := ifb_f (fun d2 => hn ⟨d, d2⟩) h
      exact h.1
  · have h := ifb_f d h
    exact h.1
/-- take -/
theorem RC_38 (h3 : RL3 w) (h1 : PS X k 153 0 [.ref 0, .int p1, .int p2, .int p3, .int p4, .int p5, .int p6] [] w r w1) (h2 : PS X k2 314 0 [.ref 147, .int p1, .int p2, .int p3, .int p4, .int p5, .int p6, pm_dead, pm_dead, pm_dead, pm_dead] [] w1 r2 w2) : r2 = r := by
  have hS := h3.1.1
  have e6 : (6 : Int32).toInt = 6 := by decide +kernel
  have e99 : (99 : Int32).toInt = 99 := by decide +kernel
  cases k with
  | zero => exact (PS_0 h1).elim
  | succ k =>
    cases k2 with
    | zero => exact (PS_0 h2).elim
    | succ k2 =>
      have h1 := U153_0 hS h1
      have no : ¬ ((2 ≤ p4.toInt ∧ p4.toInt ≤ 6) ∧ (1 ≤ p6.toInt ∧ p6.toInt ≤ 99)) → r = some (.int (-1)) ∧ w1 = w → r2 = r := by
        rintro hn ⟨a1, a2⟩
        subst w1
        obtain ⟨q6, w6, y6, h2⟩ := U314_0 hS h2
        obtain ⟨f6, alt⟩ := F246 hS h3.1.2.1.1 h3.2 y6
        have S6 : SK w6 := f6.2.2.2
        rcases alt with ⟨_, _, b1, _⟩ | ⟨b1, _⟩
        · have h2 := h2 _ b1 S6
          rw [if_neg (by decide +kernel)] at h2
          rw [F314_no S6 hn h2, a1]
        · have h2 := h2 _ b1 S6
          rw [if_pos rfl] at h2
          rw [h2.1, a1]
      by_cases c1 : p4 < 2
      · rw [if_pos c1] at h1
        rw [Int32.lt_iff_toInt_lt, two32] at c1
        exact no (by omega) h1
      · rw [if_neg c1] at h1
        rw [Int32.lt_iff_toInt_lt, two32] at c1
        by_cases c2 : 6 < p4
        · rw [if_pos c2] at h1
          rw [Int32.lt_iff_toInt_lt, e6] at c2
          exact no (by omega) h1
        · rw [if_neg c2] at h1
          rw [Int32.lt_iff_toInt_lt, e6] at c2
          by_cases c3 : p6 < 1
          · rw [if_pos c3] at h1
            rw [Int32.lt_iff_toInt_lt, o32] at c3
            exact no (by omega) h1
          · rw [if_neg c3] at h1
            rw [Int32.lt_iff_toInt_lt, o32] at c3
            by_cases c4 : p6 ≤ 99
            · rw [if_pos c4] at h1
              rw [Int32.le_iff_toInt_le, e99] at c4
              obtain ⟨m, hm⟩ : ∃ m : Nat, p4.toInt = m := ⟨p4.toInt.toNat, by omega⟩
              have g6 : 1 ≤ p6.toInt ∧ p6.toInt ≤ 99 := ⟨by omega, by omega⟩
              obtain ⟨q1, w3, z, h1⟩ := h1
              obtain ⟨f1, alt⟩ := F98 h3 z
              have S3 : SK w3 := f1.2.2.2
              have ea := FM_al f1
              rcases alt with ⟨u, s1, a1, a2, a3⟩ | ⟨a1, a2⟩
              · have h1 := h1 _ a1 S3
                rw [if_neg (by decide +kernel)] at h1
                obtain ⟨q4, w5, y, h5⟩ := h1
                obtain ⟨v1, _, v3, v2, v4⟩ := VA_v h3.2 a2.2.1
                have u1 : u ≤ 1 := by have := h3.1.2.1.1.2.1; have := a2.2.1; omega
                obtain ⟨g1, g2, g3, g4⟩ := CVL h3 a2.2.1 f1 a3
                rw [g3] at g1
                obtain ⟨f5, alt⟩ := F154 S3 v1 g3 g1 (by omega) (by omega) hm y
                have S5 : SK w5 := f5.2.2.2
                have okv := okV_n u1
                -- the class
                have cl : ((∃ n : Nat, p5.toInt = n ∧ FIG (Pof (al w) u) m n ∧ ((fitS (Pof (al w) u) (Vof (al w) u) s1.1 (digE n m) m p6 ∧ r = some (.int 1)) ∨ (¬ fitS (Pof (al w) u) (Vof (al w) u) s1.1 (digE n m) m p6 ∧ r = some (.int 0)))) ∨ ((¬ ∃ n : Nat, p5.toInt = n ∧ FIG (Pof (al w) u) m n) ∧ r = some (.int (-1)))) ∧ FM [] [86] w3 w1 := by
                  rcases alt with ⟨n, b1, b2, b3, b4⟩ | ⟨b1, b2⟩
                  · have h1 := h5 _ b3 S5
                    rw [if_neg (by decide +kernel)] at h1
                    obtain ⟨q7, w7, y7, h1⟩ := h1
                    have gg0 : gR w5 33 0 = 5 + 5 * u := by rw [FM_r f5 (by simp)]; exact g3
                    have gg1 : (gI w5 (5 + 5 * u) 0).toInt = Pof (al w) u := by rw [FM_i f5 (by simp)]; exact g1
                    have dd : dA w5 33 = s1.1 := by
                      rw [← a3.2.2.1]
                      funext q
                      unfold dA
                      rw [FM_a f5 (by simp)]
                    have hC : ECi w5 86 m (digE n m) := ⟨by omega, by omega, b4, fun t ht => by rw [digE_i ht]; have := (b2.1 (m - 1 - t) (by omega)).1; omega⟩
                    obtain ⟨e7, x⟩ := F80 S5 (by decide +kernel) okv gg0 gg1 v1 hC hm y7
                    rw [dd] at x
                    have eq : ∀ q, q < 81 → Vof (al w) u (3 + q) = vcl w5 (5 + 5 * u) (3 + q) := fun q hq => by
                      rw [← g4 q hq]
                      exact (vcl_FMv S3 f5 okv (by simp) (by simp) (by simp) (by simp <;> omega) (by simp <;> omega) (by simp <;> omega) (by simp <;> omega) (3 + q)).symm
                    have cg : fitS (Pof (al w) u) (Vof (al w) u) s1.1 (digE n m) m p6 ↔ fitS (Pof (al w) u) (vcl w5 (5 + 5 * u)) s1.1 (digE n m) m p6 := fitS_cg eq (fun _ _ => rfl) v1 (by omega)
                    rcases x with ⟨x1, x2⟩ | ⟨x1, x2⟩
                    · have h1 := h1 _ x2 (by rw [e7]; exact S5)
                      rw [if_neg (by decide +kernel)] at h1
                      exact ⟨Or.inl ⟨n, b1, b2, Or.inl ⟨cg.mpr x1, h1.1⟩⟩, by rw [h1.2, e7]; exact f5⟩
                    · have h1 := h1 _ x2 (by rw [e7]; exact S5)
                      rw [if_pos rfl] at h1
                      exact ⟨Or.inl ⟨n, b1, b2, Or.inr ⟨fun f => x1 (cg.mp f), h1.1⟩⟩, by rw [h1.2, e7]; exact f5⟩
                  · have h1 := h5 _ b2 S5
                    rw [if_pos rfl] at h1
                    exact ⟨Or.inr ⟨b1, h1.1⟩, by rw [h1.2]; exact f5⟩
                obtain ⟨cl, f9⟩ := cl
                have S9 : SK w1 := f9.2.2.2
                have e9 : al w1 = al w := by rw [al_FM f9 (by decide), ea]
                obtain ⟨q6, w6, y6, h2⟩ := U314_0 S9 h2
                obtain ⟨f6, e6, alt2⟩ := LOAD3 h3 z S9 e9 y6
                have S6 : SK w6 := f6.2.2.2
                rcases alt2 with ⟨x1, _⟩ | ⟨u', t1, t2, _, b2, c1', c2', c3', c4', c5', c6', c7'⟩
                · rw [a1] at x1; exact absurd x1 i10
                · have eu : u' = u := by have := a2.1; omega
                  subst eu
                  have h2 := h2 _ b2 S6
                  rw [if_neg (by decide +kernel)] at h2
                  have ed : dR w6 = s1.1 := by
                    have x1 : dA w3 33 = t1.1 := c5'.2.2.1
                    rw [show dR w6 = t2.1 from c6'.1, c4'.1, ← x1]
                    exact a3.2.2.1
                  have rf := F314 S6 c1' c3' v1 (by rw [e6]; exact v3) (by omega) (by omega) hm g6 h2
                  rw [ed, e6] at rf
                  rcases cl with ⟨n, x1, x2, x3⟩ | ⟨x1, x2⟩
                  · rcases rf with ⟨n', y1, y2, y3⟩ | ⟨y1, _⟩
                    · have en : n' = n := by omega
                      subst en
                      rcases x3 with ⟨x3, x4⟩ | ⟨x3, x4⟩
                      · rcases y3 with ⟨y3, y4⟩ | ⟨y3, y4⟩
                        · rw [y4, x4]
                        · exact absurd x3 y3
                      · rcases y3 with ⟨y3, y4⟩ | ⟨y3, y4⟩
                        · exact absurd y3 x3
                        · rw [y4, x4]
                    · exact absurd ⟨n, x1, x2⟩ y1
                  · rcases rf with ⟨n', y1, y2, y3⟩ | ⟨y1, y2⟩
                    · exact absurd ⟨n', y1, y2⟩ x1
                    · rw [y2, x2]
              · have h1 := h1 _ a1 S3
                rw [if_pos rfl] at h1
                rw [h1.2] at h2
                obtain ⟨q6, w6, y6, h2⟩ := U314_0 S3 h2
                obtain ⟨f6, e6, alt2⟩ := LOAD3 h3 z S3 ea y6
                rcases alt2 with ⟨_, g1⟩ | ⟨u', t1, t2, g1, _⟩
                · have h2 := h2 _ g1 f6.2.2.2
                  rw [if_pos rfl] at h2
                  rw [h2.1, h1.1]
                · rw [a1] at g1; exact absurd g1.symm i10
            · rw [if_neg c4] at h1
              rw [Int32.le_iff_toInt_le, e99] at c4
              exact no (by omega) h1
end HWT
