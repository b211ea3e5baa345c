/-! ===== finds: the reference ===== -/
section JLA
variable {X : pm_X} {k k2 : Nat} {w0 w w1 w2 w3 w4 w5 wj w' : pm_W} {r r2 q0 q1 q2 : Option Value} {p1 p2 p3 p4 p5 i1 i2 i3 i4 i5 i6 i7 i8 i9 z z1 z2 so x : Int32} {i v j m c u P t s a b d p q fx Q I J K T W N κ bm n : Nat} {l l6 l10 : Int64} {e g y : Int} {fe rk : Nat → Int} {E : Nat → Nat} {u9 u10 u12 : Value} {V : Nat → Nat → Prop} {R : Nat → Nat → Int}
theorem VRg_i (hm : 2 ≤ m ∧ m ≤ 6) (hc : c < 9 ^ (m - 2)) : VRg R P y a b m c ↔ RNd P (elN a b m c) m ∧ ∀ i, i < m → y ≤ R (elN a b m c i) (elN a b m c ((i + 1) % m)) := by
  constructor
  · rintro ⟨_, _, _, ⟨h1, h2, h3⟩, h4⟩
    refine ⟨⟨h1, h2⟩, fun i hi => ?_⟩
    by_cases e : i + 1 < m
    · rw [Nat.mod_eq_of_lt e]; exact h3 i e
    · rw [show i + 1 = m by omega, Nat.mod_self, show i = m - 1 by omega]; exact h4
  · rintro ⟨⟨h1, h2⟩, h3⟩
    refine ⟨hm.1, hm.2, hc, ⟨h1, h2, fun i hi => ?_⟩, ?_⟩
    · have q := h3 i (by omega)
      rw [Nat.mod_eq_of_lt hi] at q
      exact q
    · have q := h3 (m - 1) (by omega)
      rw [show m - 1 + 1 = m by omega, Nat.mod_self] at q
      exact q
def SBr (w : pm_W) (P : Nat) (so : Int32) (fe rk : Nat → Int) (a b : Nat) (V : Nat → Nat → Prop) : Prop := ((gI w 147 23).toInt = 0 ∧ ∀ m c, ¬ V m c) ∨ ∃ m c : Nat, BSt (GR so fe rk a b) V m c ∧ (2 ≤ m ∧ m ≤ 6) ∧ (gI w 147 23).toInt = m ∧ ∀ i, i < m → ((gA w 159).getD i 0).toInt = elN a b m c i ∧ elN a b m c i < P
theorem SBr_cg {V' : Nat → Nat → Prop} (h : ∀ m c, V m c ↔ V' m c) (hB : SBr w P so fe rk a b V) : SBr w P so fe rk a b V' := by
  rcases hB with ⟨h1, h2⟩ | ⟨m, c, h1, h2⟩
  · exact Or.inl ⟨h1, fun m c q => h2 m c ((h m c).mpr q)⟩
  · exact Or.inr ⟨m, c, BSt_cg h h1, h2⟩
theorem SBr_fm {fs : List (Nat × Nat)} {as : List Nat} (hB : SBr w P so fe rk a b V) (f : FM fs as w w') (h1 : (147, 23) ∉ fs) (h2 : 159 ∉ as) : SBr w' P so fe rk a b V := by
  unfold SBr
  rw [FM_i f h1, FM_a f h2]
  exact hB
/-- seen before m, c -/
def VBf (R : Nat → Nat → Int) (P : Nat) (y : Int) (a b m c m' c' : Nat) : Prop := VRg R P y a b m' c' ∧ (m' < m ∨ (m' = m ∧ c' < c))
abbrev rrF : List (Nat × Nat) := [(147, 23), (147, 24)]
theorem F266_l (hS0 : SK w0) (hp : i1.toInt = (610 + 132 * u : Nat)) (hu : u ≤ 1) (hP : (al w0 (610 + 132 * u)).toInt = P) (hP9 : P ≤ 9) (hκ : i2.toInt = κ) (hκ7 : κ < 7) (hA : (wtP (al w0) u κ 0).toInt = a) (hB : (wtP (al w0) u κ 1).toInt = b) (hN : (wtP (al w0) u κ 2).toInt = y) (ha : a < P) (hb : b < P) (hso : i3 = 0 ∨ i3 = 1 ∨ i3 = 2) (hfe : ∀ x : Nat, x < 9 → fe x = if (x : Int) = i4.toInt then i5.toInt else (al w0 (694 + 132 * u + x)).toInt) (hrk : ∀ x : Nat, x < 9 → rk x = (al w0 (703 + 132 * u + x)).toInt) (hfb : ∀ x, x < P → 0 ≤ fe x ∧ fe x ≤ 1000) (hrb : ∀ x, x < P → 0 ≤ rk x ∧ rk x ≤ 100) : ∀ k : Nat,
    (∀ (w : pm_W) (m : Nat) (l6 : Int64) (i8 : Int32) (u9 u10 u12 : Value), FM rrF [158, 159] w0 w → i8.toInt = m → 2 ≤ m → m ≤ 7 → SBr w P i3 fe rk a b (VBf (rmA w0 u) P y a b m 0) → (∀ m' c', BSt (GR i3 fe rk a b) (VBf (rmA w0 u) P y a b m 0) m' c' → l6.toInt = GR i3 fe rk a b m' c') → PS X k 266 11 [.ref 147, .int i1, .int i2, .int i3, .int i4, .int i5, .long l6, pm_dead, .int i8, u9, u10, pm_dead, u12] [] w r w' → FM rrF [158, 159] w0 w' ∧ SBr w' P i3 fe rk a b (VRg (rmA w0 u) P y a b) ∧ (((gI w' 147 23).toInt = 0 ∧ r = some (.int 0)) ∨ (0 < (gI w' 147 23).toInt ∧ r = some (.int 1)))) ∧
    (∀ (w : pm_W) (m c : Nat) (l6 : Int64) (i8 i9 : Int32) (u10 u12 : Value), FM rrF [158, 159] w0 w → i8.toInt = m → 2 ≤ m → m ≤ 6 → i9.toInt = c → c ≤ 9 ^ (m - 2) → SBr w P i3 fe rk a b (VBf (rmA w0 u) P y a b m c) → (∀ m' c', BSt (GR i3 fe rk a b) (VBf (rmA w0 u) P y a b m c) m' c' → l6.toInt = GR i3 fe rk a b m' c') → PS X k 266 21 [.ref 147, .int i1, .int i2, .int i3, .int i4, .int i5, .long l6, pm_dead, .int i8, .int i9, u10, pm_dead, u12] [] w r w' → FM rrF [158, 159] w0 w' ∧ SBr w' P i3 fe rk a b (VRg (rmA w0 u) P y a b) ∧ (((gI w' 147 23).toInt = 0 ∧ r = some (.int 0)) ∨ (0 < (gI w' 147 23).toInt ∧ r = some (.int 1)))) := by
  have e7 : (7 : Int32).toInt = 7 := by decide +kernel
  have p6 : ∀ j, j ≤ 6 → 9 ^ j ≤ 531441 := fun j hj => Nat.le_trans (Nat.pow_le_pow_right (by decide) hj) (by decide)
  intro k
  induction k using Nat.strongRecOn with
  | _ k ih =>
    match k, ih with
    | 0, _ => exact ⟨fun _ _ _ _ _ _ _ _ _ _ _ _ _ h => (PS_0 h).elim, fun _ _ _ _ _ _ _ _ _ _ _ _ _ _ _ _ h => (PS_0 h).elim⟩
    | k + 1, ih =>
      refine ⟨fun w m l6 i8 u9 u10 u12 fm h8 m2 m7 hB' hl h => ?_, fun w m c l6 i8 i9 u10 u12 fm h8 m2 m6 h9 hc hB' hl h => ?_⟩
      · have hS : SK w := fm.2.2.2
        have h := U266_11 hS h
        by_cases c7 : 7 ≤ i8
        · rw [if_pos c7] at h
          rw [Int32.le_iff_toInt_le, e7, h8] at c7
          have em : m = 7 := by omega
          have nn : 0 ≤ (gI w 147 23).toInt := by
            rcases hB' with ⟨q, _⟩ | ⟨m, c, _, _, q, _⟩ <;> omega
          have hBB : SBr w P i3 fe rk a b (VRg (rmA w0 u) P y a b) := SBr_cg (fun m' c' => ⟨fun q => q.1, fun q => ⟨q, Or.inl (by have := q.2.1; omega)⟩⟩) hB'
          by_cases c2 : gI w 147 23 ≤ 0
          · rw [if_pos c2] at h
            rw [Int32.le_iff_toInt_le, z32] at c2
            rw [h.2]
            exact ⟨fm, hBB, Or.inl ⟨by omega, h.1⟩⟩
          · rw [if_neg c2] at h
            rw [Int32.le_iff_toInt_le, z32] at c2
            rw [h.2]
            exact ⟨fm, hBB, Or.inr ⟨by omega, h.1⟩⟩
        · rw [if_neg c7] at h
          rw [Int32.le_iff_toInt_le, e7, h8] at c7
          exact (ih k (Nat.lt_succ_self k)).2 w m 0 l6 i8 0 _ _ fm h8 m2 (by omega) z32 (Nat.zero_le _) hB' hl h
      · have hS : SK w := fm.2.2.2
        have pm := p6 (m - 2) (by omega)
        have h := U266_21 hS h
        obtain ⟨zp, hzp, h⟩ := use_z hS h (fun _ _ t => F267 (t := m - 2) hS (by rw [zi_sub h8 two32 (by omega) (by omega)]; omega) (by omega) t)
        by_cases c1 : zp ≤ i9
        · rw [if_pos c1] at h
          rw [Int32.le_iff_toInt_le, hzp, h9] at c1
          have ev : ∀ m' c', VBf (rmA w0 u) P y a b m c m' c' ↔ VBf (rmA w0 u) P y a b (m + 1) 0 m' c' := by
            intro m' c'
            constructor
            · rintro ⟨q1, q2⟩
              exact ⟨q1, by omega⟩
            · rintro ⟨q1, q2⟩
              refine ⟨q1, ?_⟩
              by_cases e : m' = m
              · have := q1.2.2.1
                rw [e] at this
                exact Or.inr ⟨e, by omega⟩
              · exact Or.inl (by omega)
          exact (ih k (Nat.lt_succ_self k)).1 w (m + 1) l6 _ _ _ _ fm (by rw [zi_inc (n := 40) (by omega) (by omega), h8]; rfl) (by omega) (by omega) (SBr_cg ev hB') (fun m' c' q => hl m' c' (BSt_cg (fun m c => (ev m c).symm) q)) h
        · rw [if_neg c1] at h
          rw [Int32.le_iff_toInt_le, hzp, h9] at c1
          have hcl : c < 9 ^ (m - 2) := by omega
          have e0 : al w = al w0 := al_FM fm (by decide)
          have h := use_p hS h (fun _ _ y => F224w (c := 0) hS hu hp hκ hκ7 z32 (by decide) y)
          obtain ⟨_, h⟩ := h
          have h := h _ rfl
          rw [e0] at h
          have m1 := fun i => aS158 (x := wtP (al w0) u κ 0) hS (d := 0) z32 (by decide) i
          have f1 : FM [] [158] w (aS w 158 0 (wtP (al w0) u κ 0)) := FM_aS hS (by decide)
          obtain ⟨wa, hwa⟩ : ∃ wa, wa = aS w 158 0 (wtP (al w0) u κ 0) := ⟨_, rfl⟩
          rw [← hwa] at h m1 f1
          have S1 := f1.2.2.2
          have h := use_p S1 h (fun _ _ y => F224w (c := 1) S1 hu hp hκ hκ7 o32 (by decide) y)
          obtain ⟨_, h⟩ := h
          have h := h _ rfl
          rw [al_FM f1 (by decide), e0] at h
          have m2' := fun i => aS158 (x := wtP (al w0) u κ 1) S1 (d := 1) o32 (by decide) i
          have f2 : FM [] [158] wa (aS wa 158 1 (wtP (al w0) u κ 1)) := FM_aS S1 (by decide)
          obtain ⟨wb, hwb⟩ : ∃ wb, wb = aS wa 158 1 (wtP (al w0) u κ 1) := ⟨_, rfl⟩
          rw [← hwb] at h m2' f2
          have S2 := f2.2.2.2
          have f02 := FM_trans f1 f2
          obtain ⟨q12, w13, y13, h⟩ := h
          have el9 : ∀ i, i < m → elN a b m c i < 9 := by
            intro i hi
            unfold elN
            split
            · omega
            · split
              · omega
              · exact Nat.mod_lt _ (by decide)
          obtain ⟨f3, hE, bb, b1, b2⟩ := F268 (E := elN a b m c) (c := c) S2 hp (by rw [al_FM f02 (by decide), e0]; exact hP) hP9 (fx := 2) two32 h8 ⟨by decide, m2⟩ m6 h9 (fun i hi => by
            have ci : i = 0 ∨ i = 1 := by omega
            rcases ci with rfl | rfl
            · rw [m2', if_neg (by decide), m1, if_pos rfl]; exact hA
            · rw [m2', if_pos rfl]; exact hB) (fun i hi1 hi2 => by
            unfold elN
            rw [if_neg (by omega), if_neg (by omega)]) el9 y13
          have S3 := f3.2.2.2
          have h := h _ b1 S3
          have f03 := FM_trans f02 f3
          have fm3 : FM rrF [158, 159] w0 w13 := FM_trans fm (FM_mono f03 (by intro p hp; cases hp) (by decide))
          have e3 : al w13 = al w0 := al_FM fm3 (by decide)
          have hB3 : SBr w13 P i3 fe rk a b (VBf (rmA w0 u) P y a b m c) := SBr_fm hB' f03 (by simp) (by decide)
          have e91 : (i9 + 1).toInt = ((c + 1 : Nat) : Int) := by rw [zi_inc (n := 1000000) (by omega) (by omega), h9]; rfl
          -- no round: on
          have skip : ∀ (k' : Nat) (wz : pm_W) (u10 u12 : Value), k' < k + 1 → FM rrF [158, 159] w0 wz → SBr wz P i3 fe rk a b (VBf (rmA w0 u) P y a b m c) → ¬ VRg (rmA w0 u) P y a b m c → PS X k' 266 192 [.ref 147, .int i1, .int i2, .int i3, .int i4, .int i5, .long l6, pm_dead, .int i8, .int i9, u10, pm_dead, u12] [] wz r w' → FM rrF [158, 159] w0 w' ∧ SBr w' P i3 fe rk a b (VRg (rmA w0 u) P y a b) ∧ (((gI w' 147 23).toInt = 0 ∧ r = some (.int 0)) ∨ (0 < (gI w' 147 23).toInt ∧ r = some (.int 1))) := by
            intro k' wz u10 u12 hk fz hz hn hh
            obtain ⟨k'', hk2, hh⟩ := X192 fz.2.2.2 hh
            have ev : ∀ m' c', VBf (rmA w0 u) P y a b m c m' c' ↔ VBf (rmA w0 u) P y a b m (c + 1) m' c' := by
              intro m' c'
              constructor
              · rintro ⟨q1, q2⟩
                exact ⟨q1, by omega⟩
              · rintro ⟨q1, q2⟩
                refine ⟨q1, ?_⟩
                by_cases e : m' = m ∧ c' = c
                · rw [e.1, e.2] at q1
                  exact absurd q1 hn
                · omega
            exact (ih k'' (by omega)).2 wz m (c + 1) l6 i8 _ _ _ fz h8 m2 m6 e91 (by omega) (SBr_cg ev hz) (fun m' c' q => hl m' c' (BSt_cg (fun m c => (ev m c).symm) q)) hh
          have evp : ∀ m' c', VRg (rmA w0 u) P y a b m c → ((VBf (rmA w0 u) P y a b m c m' c' ∨ (m' = m ∧ c' = c)) ↔ VBf (rmA w0 u) P y a b m (c + 1) m' c') := by
            intro m' c' hv
            constructor
            · rintro (⟨q1, q2⟩ | ⟨q1, q2⟩)
              · exact ⟨q1, by omega⟩
              · rw [q1, q2]; exact ⟨hv, Or.inr ⟨rfl, by omega⟩⟩
            · rintro ⟨q1, q2⟩
              by_cases e : m' = m ∧ c' = c
              · exact Or.inr e
              · exact Or.inl ⟨q1, by omega⟩
          cases bb with
          | false =>
            rw [if_pos (by decide +kernel)] at h
            exact skip k w13 _ _ (by omega) fm3 hB3 (fun q => Bool.noConfusion (b2.mpr ((VRg_i ⟨m2, m6⟩ hcl).mp q).1)) h
          | true =>
            rw [if_neg (by decide +kernel)] at h
            have hr := b2.mp rfl
            have h := use_p S3 h (fun _ _ y => F224w (c := 2) S3 hu hp hκ hκ7 two32 (by decide) y)
            rw [e3] at h
            obtain ⟨q18, w19, y19, h⟩ := h
            obtain ⟨d0, bb, d1, d2⟩ := F269v S3 hu hp h8 ⟨m2, m6⟩ hN hE el9 y19
            rw [rmA_fm fm3 (by decide) (by decide)] at d2
            have h := h _ d1 (by rw [d0]; exact S3)
            rw [d0] at h
            cases bb with
            | false =>
              rw [if_pos (by decide +kernel)] at h
              exact skip k w13 _ _ (by omega) fm3 hB3 (fun q => Bool.noConfusion (d2.mpr ((VRg_i ⟨m2, m6⟩ hcl).mp q).2)) h
            | true =>
              rw [if_neg (by decide +kernel)] at h
              have hv : VRg (rmA w0 u) P y a b m c := (VRg_i ⟨m2, m6⟩ hcl).mpr ⟨hr, d2.mp rfl⟩
              have h := h _ rfl
              have f4 : FM [(147, 24)] [] w13 (sI w13 147 24 i8) := FM_sI S3 (by decide)
              have g24 : gI (sI w13 147 24 i8) 147 24 = i8 := gI_sI (SK_isF S3 (by decide +kernel))
              obtain ⟨wd, hwd⟩ : ∃ wd, wd = sI w13 147 24 i8 := ⟨_, rfl⟩
              rw [← hwd] at h f4 g24
              have S4 := f4.2.2.2
              have fm4 : FM rrF [158, 159] w0 wd := FM_trans fm3 (FM_mono f4 (by decide) (by intro p hp; cases hp))
              have e4 : al wd = al w0 := al_FM fm4 (by decide)
              have hB4 : SBr wd P i3 fe rk a b (VBf (rmA w0 u) P y a b m c) := SBr_fm hB3 f4 (by decide) (by simp)
              have hE4 : ∀ i, i < m → ((gA wd 158).getD i 0).toInt = elN a b m c i := fun i hi => by rw [FM_a f4 (by simp)]; exact hE i hi
              have fin : ∀ good : Int64, good.toInt = GR i3 fe rk a b m c → (if (gI wd 147 23) ≤ 0 then (PS X k 266 152 [.ref 147, .int i1, .int i2, .int i3, .int i4, .int i5, .long l6, pm_dead, .int i8, .int i9, .long good, pm_dead, u12] [] wd r w') else (if 0 < (lg_cmp good l6) then (PS X k 266 152 [.ref 147, .int i1, .int i2, .int i3, .int i4, .int i5, .long l6, pm_dead, .int i8, .int i9, .long good, pm_dead, u12] [] wd r w') else (PS X k 266 192 [.ref 147, .int i1, .int i2, .int i3, .int i4, .int i5, .long l6, pm_dead, .int i8, .int i9, .long good, pm_dead, u12] [] wd r w'))) → FM rrF [158, 159] w0 w' ∧ SBr w' P i3 fe rk a b (VRg (rmA w0 u) P y a b) ∧ (((gI w' 147 23).toInt = 0 ∧ r = some (.int 0)) ∨ (0 < (gI w' 147 23).toInt ∧ r = some (.int 1))) := by
                intro good hg hh
                have take : BSt (GR i3 fe rk a b) (fun m1 c1 => VBf (rmA w0 u) P y a b m c m1 c1 ∨ (m1 = m ∧ c1 = c)) m c → PS X k 266 152 [.ref 147, .int i1, .int i2, .int i3, .int i4, .int i5, .long l6, pm_dead, .int i8, .int i9, .long good, pm_dead, u12] [] wd r w' → FM rrF [158, 159] w0 w' ∧ SBr w' P i3 fe rk a b (VRg (rmA w0 u) P y a b) ∧ (((gI w' 147 23).toInt = 0 ∧ r = some (.int 0)) ∨ (0 < (gI w' 147 23).toInt ∧ r = some (.int 1))) := by
                  intro hb hh
                  obtain ⟨k', wz, v10, v12, hk, fz, z1, z2, hh⟩ := X152 S4 ⟨m2, m6⟩ h8 hh
                  have hb2 := BSt_cg (fun m' c' => evp m' c' hv) hb
                  exact (ih k' (by omega)).2 wz m (c + 1) good i8 _ _ _ (FM_trans fm4 (FM_mono fz (by decide) (by decide))) h8 m2 m6 e91 (by omega) (Or.inr ⟨m, c, hb2, ⟨m2, m6⟩, z1, fun i hi => ⟨by rw [z2 i hi]; exact hE4 i hi, hr.1 i hi⟩⟩) (fun m' c' q => by
                    obtain ⟨q1, q2⟩ := BSt_uq q hb2
                    rw [q1, q2]; exact hg) hh
                rcases hB4 with ⟨g1, g2⟩ | ⟨bm, bc, g1, g2, g3, g4⟩
                · rw [if_pos (show gI wd 147 23 ≤ 0 by rw [Int32.le_iff_toInt_le, g1, z32]; exact Int.le_refl _)] at hh
                  exact take (BSt_1 g2) hh
                · rw [if_neg (show ¬ gI wd 147 23 ≤ 0 by rw [Int32.le_iff_toInt_le, g3, z32]; omega)] at hh
                  have hl6 := hl bm bc g1
                  have pos := g1.1.2
                  by_cases cg : 0 < lg_cmp good l6
                  · rw [if_pos cg] at hh
                    rw [cmp_g, hg, hl6] at cg
                    exact take (BSt_n g1 (Or.inl cg)) hh
                  · rw [if_neg cg] at hh
                    rw [cmp_g, hg, hl6] at cg
                    have hb := BSt_o (m' := m) (c' := c) g1 (by unfold BTt; omega)
                    have hb2 := BSt_cg (fun m' c' => evp m' c' hv) hb
                    obtain ⟨k', hk, hh⟩ := X192 S4 hh
                    exact (ih k' (by omega)).2 wd m (c + 1) l6 i8 _ _ _ fm4 h8 m2 m6 e91 (by omega) (Or.inr ⟨bm, bc, hb2, g2, g3, g4⟩) (fun m' c' q => by
                      obtain ⟨q1, q2⟩ := BSt_uq q hb2
                      rw [q1, q2]; exact hl6) hh
              have l0 : (0 : Int64).toInt = 0 := by decide +kernel
              rcases hso with hs | hs | hs
              · rw [if_pos hs] at h
                exact fin 0 (by rw [l0]; unfold GR GSv; rw [if_neg (by rw [hs]; decide), if_neg (by rw [hs]; decide)]) h
              · rw [if_neg (by rw [hs]; decide), if_pos hs] at h
                obtain ⟨q25, w26, y26, h⟩ := h
                obtain ⟨c0, x27, c1, c2, c3, c4⟩ := F270 (E := elN a b m c) S4 hp hu (by rw [e4]; exact hfe) (by rw [g24]; exact h8) ⟨m2, m6⟩ hE4 el9 (fun i hi => hfb _ (hr.1 i hi)) y26
                have h := h _ c1 (by rw [c0]; exact S4)
                rw [c0] at h
                refine fin _ ?_ h
                rw [Int32.toInt_toInt64, zi_neg rfl (by omega) (by omega), c2]
                unfold GR GSv
                rw [if_pos hs]
                rfl
              · rw [if_neg (by rw [hs]; decide), if_neg (by rw [hs]; decide)] at h
                obtain ⟨q22, w23, y23, h⟩ := h
                obtain ⟨c0, x24, c1, c2⟩ := F271 (E := elN a b m c) S4 hp hu (by rw [e4]; exact hrk) h8 ⟨m2, m6⟩ hE4 el9 (fun i hi => hrb _ (hr.1 i hi)) y23
                have h := h _ c1 (by rw [c0]; exact S4)
                rw [c0] at h
                refine fin _ ?_ h
                rw [c2]
                unfold GR GSv
                rw [if_neg (by rw [hs]; decide), if_pos hs]
                rfl
end JLA
