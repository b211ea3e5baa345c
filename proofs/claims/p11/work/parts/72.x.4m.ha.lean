/-! ===== rings begun ===== -/
section HA
variable {X : pm_X} {k k2 : Nat} {w0 w w1 w2 w' : pm_W} {r r2 : Option Value} {p p1 p2 p3 p4 p5 f0 p0 f q x y M nn : Int32} {n i v j m T L u a c N K P t s : Nat} {D D' G G1 G2 V E : Nat → Int32} {b : Bool}
def rg4 (N : Nat) (m nn till : Int32) (G : Nat → Int32) : Nat → Int32 := updc (updc (updc (updc G (10 * N) m) (10 * N + 1) nn) (10 * N + 2) till) (10 * N + 3) 1
def rgW (E : Nat → Int32) (N : Nat) : Nat → (Nat → Int32) → (Nat → Int32)
  | 0, G => G
  | i + 1, G => updc (rgW E N i G) (10 * N + 4 + i) (E (3 + i))
/-- who is in a ring: m of them, as E says from 3 on, of nine -/
def ECi (w : pm_W) (c m : Nat) (E : Nat → Int32) : Prop := 2 ≤ m ∧ m ≤ 6 ∧ (∀ j, j < m → (gA w c).getD j 0 = E (3 + j)) ∧ ∀ t, t < m → 0 ≤ (E (3 + t)).toInt ∧ (E (3 + t)).toInt ≤ 8
theorem E_who (h : ∀ t, t < m → 0 ≤ (E (3 + t)).toInt ∧ (E (3 + t)).toInt ≤ 8) (ht : t < m) : (E (3 + t)).toInt = (eWho E t : Nat) ∧ eWho E t < 9 := by
  have z := h t ht
  unfold eWho
  omega
theorem E_nx (h : ∀ t, t < m → 0 ≤ (E (3 + t)).toInt ∧ (E (3 + t)).toInt ≤ 8) (ht : t < m) : eNx E m t < 9 := by
  unfold eNx
  by_cases c : t + 1 < m
  · rw [if_pos c]; exact (E_who h c).2
  · rw [if_neg c]; exact (E_who h (by omega)).2
theorem F80_3 (hS : SK w) (ok : okS a = true) (okv : okV v = true) (hv : gR w a 0 = v) (hP : (gI w v 0).toInt = P) (hP9 : P ≤ 9) (hC : ECi w c m E) {i2 i3 : Int32} (h2 : i2.toInt = m) : ∀ (k t : Nat) (i4 : Int32) (u5 : Value), i4.toInt = t → t ≤ m → (∀ i, i < t → fitO P (vcl w v) (dA w a) E m i3 i) → PS X k 80 3 [.ref a, .ref c, .int i2, .int i3, .int i4, u5] [] w r w' → w' = w ∧ ((fitS P (vcl w v) (dA w a) E m i3 ∧ r = some (.int 1)) ∨ (¬ fitS P (vcl w v) (dA w a) E m i3 ∧ r = some (.int 0))) := by
  intro k
  obtain ⟨m2, m6, hE, hr⟩ := hC
  have hP' : (gI w (gR w a 0) 0).toInt = P := by rw [hv]; exact hP
  induction k with
  | zero => intro t i4 u5 h4 ht hf h; exact (PS_0 h).elim
  | succ k ih =>
    intro t i4 u5 h4 ht hf h
    have h := U80_3 hS h
    by_cases c1 : i2 ≤ i4
    · rw [if_pos c1] at h
      rw [Int32.le_iff_toInt_le, h2, h4] at c1
      exact ⟨h.2, Or.inl ⟨fun i hi => hf i (by omega), h.1⟩⟩
    · rw [if_neg c1] at h
      rw [Int32.le_iff_toInt_le, h2, h4] at c1
      have htm : t < m := by omega
      obtain ⟨w1, w9⟩ := E_who hr htm
      have n9 := E_nx hr htm
      have i41 : (i4 + 1).toInt = (t + 1 : Nat) := by rw [zi_inc (n := 10) (by omega) (by omega), h4]; rfl
      have ei : aG w c i4 = E (3 + t) := by rw [aG_n (m := t) h4]; exact hE t htm
      have go : ∀ nx : Int32, nx.toInt = (eNx E m t : Nat) → (∃ (r1 : Option Value) (w2 : pm_W), PS X k 61 0 [.ref (gR w a 0), .int (aG w c i4)] [] w r1 w2 ∧ (∀ x3 : Int32, r1 = some (.int x3) → SK w2 → (if x3 = 0 then (r = some (.int 0) ∧ w' = w2) else (∃ (r4 : Option Value) (w5 : pm_W), PS X k 61 0 [.ref (gR w2 a 0), .int nx] [] w2 r4 w5 ∧ (∀ x6 : Int32, r4 = some (.int x6) → SK w5 → (if x6 = 0 then (r = some (.int 0) ∧ w' = w5) else (aI w5 c i4 ∧ (∃ (r7 : Option Value) (w8 : pm_W), PS X k 77 0 [.ref a, .int (aG w5 c i4), .int nx] [] w5 r7 w8 ∧ (∀ x9 : Int32, r7 = some (.int x9) → SK w8 → (if i3 ≤ x9 then (PS X k 80 3 [.ref a, .ref c, .int i2, .int i3, .int (i4 + 1), .int nx] [] w8 r w') else (r = some (.int 0) ∧ w' = w8))))))))))) → w' = w ∧ ((fitS P (vcl w v) (dA w a) E m i3 ∧ r = some (.int 1)) ∨ (¬ fitS P (vcl w v) (dA w a) E m i3 ∧ r = some (.int 0))) := by
        intro nx hnx z
        have z := use_p hS z (fun _ _ y => F61 hS hP' y)
        rw [ei] at z
        by_cases d1 : 0 ≤ (E (3 + t)).toInt ∧ (E (3 + t)).toInt < P
        · have z := ifb_t d1 z
          have z := use_p hS z (fun _ _ y => F61 hS hP' y)
          by_cases d2 : 0 ≤ nx.toInt ∧ nx.toInt < P
          · have z := ifb_t d2 z
            obtain ⟨_, z⟩ := z
            rw [ei] at z
            have z := use_p hS z (fun _ _ y => F77n hS ok okv hv w1 hnx w9 n9 y)
            by_cases d3 : i3 ≤ rmI (vcl w v) (dA w a) (eWho E t) (eNx E m t)
            · rw [if_pos d3] at z
              rw [Int32.le_iff_toInt_le] at d3
              refine ih (t + 1) (i4 + 1) _ i41 (by omega) (fun i hi => ?_) z
              by_cases e : i = t
              · rw [e]; exact ⟨by omega, by omega, d3⟩
              · exact hf i (by omega)
            · rw [if_neg d3] at z
              rw [Int32.le_iff_toInt_le] at d3
              exact ⟨z.2, Or.inr ⟨fun q => d3 (q t htm).2.2, z.1⟩⟩
          · have z := ifb_f d2 z
            exact ⟨z.2, Or.inr ⟨fun q => by have := (q t htm).2.1; omega, z.1⟩⟩
        · have z := ifb_f d1 z
          exact ⟨z.2, Or.inr ⟨fun q => by have := (q t htm).1; omega, z.1⟩⟩
      by_cases c2 : i2 ≤ i4 + 1
      · rw [if_pos c2] at h
        rw [Int32.le_iff_toInt_le, h2, i41] at c2
        have e0 : aG w c 0 = E (3 + 0) := by rw [aG_n (m := 0) z32]; exact hE 0 (by omega)
        refine go (aG w c 0) ?_ h.2.2
        rw [e0]
        unfold eNx
        rw [if_neg (by omega)]
        exact (E_who hr (by omega)).1
      · rw [if_neg c2] at h
        rw [Int32.le_iff_toInt_le, h2, i41] at c2
        have e1 : aG w c (i4 + 1) = E (3 + (t + 1)) := by rw [aG_n (m := t + 1) i41]; exact hE (t + 1) (by omega)
        refine go (aG w c (i4 + 1)) ?_ h.2.2
        rw [e1]
        unfold eNx
        rw [if_pos (by omega)]
        exact (E_who hr (by omega)).1
theorem F80 (hS : SK w) (ok : okS a = true) (okv : okV v = true) (hv : gR w a 0 = v) (hP : (gI w v 0).toInt = P) (hP9 : P ≤ 9) (hC : ECi w c m E) (h2 : p2.toInt = m) (h : PS X k 80 0 [.ref a, .ref c, .int p2, .int p3, pm_dead, pm_dead] [] w r w') : w' = w ∧ ((fitS P (vcl w v) (dA w a) E m p3 ∧ r = some (.int 1)) ∨ (¬ fitS P (vcl w v) (dA w a) E m p3 ∧ r = some (.int 0))) := by
  cases k with
  | zero => exact (PS_0 h).elim
  | succ k => exact F80_3 hS ok okv hv hP hP9 hC h2 _ 0 0 _ z32 (Nat.zero_le _) (fun i hi => absurd hi (Nat.not_lt_zero i)) (U80_0 hS h)
theorem F81_63 (ok : okS a = true) (hN : N < 37) (hca : c ≠ a + 6 ∧ c ≠ a + 7) {i2 i3 i4 i5 : Int32} (h2 : i2.toInt = m) (h5 : i5.toInt = (10 * N : Nat)) : ∀ (k : Nat) (w : pm_W) (t : Nat) (i6 : Int32), FM [] [a + 6, a + 7] w0 w → ECi w c m E → i6.toInt = t → t ≤ m → (gI w a 2).toInt = N → dA w a = adD E m i3 t D → gAr w a = rgW E N t G → PS X k 81 63 [.ref a, .ref c, .int i2, .int i3, .int i4, .int i5, .int i6] [] w r w' → r = none ∧ FM [(a, 2)] [a + 6, a + 7] w0 w' ∧ (gI w' a 2).toInt = (N + 1 : Nat) ∧ dA w' a = adD E m i3 m D ∧ gAr w' a = rgW E N m G := by
  intro k
  induction k with
  | zero => intro w t i6 f0 hC h6 ht hN0 hd hg h; exact (PS_0 h).elim
  | succ k ih =>
    intro w t i6 f0 hC h6 ht hN0 hd hg h
    have hS := f0.2.2.2
    obtain ⟨r3, r4, _, i1', i2', _⟩ := okS_r hS ok
    have h := U81_63 hS h
    have hC' := hC
    obtain ⟨m2, m6, hE, hr⟩ := hC
    by_cases c1 : i2 ≤ i6
    · rw [if_pos c1] at h
      rw [Int32.le_iff_toInt_le, h2, h6] at c1
      have et : t = m := by omega
      obtain ⟨a1, a2⟩ := h _ rfl
      rw [et] at hd hg
      refine ⟨a1, FM_trans (FM_mono f0 (by intro z hz; cases hz) (by simp)) (by rw [a2]; exact FM_sI hS (by simp)), ?_, ?_, ?_⟩
      · rw [a2, gI_sI i2', zi_add hN0 o32 (by omega) (by omega)]; rfl
      · rw [← hd, a2]; unfold dA; rw [gA_sI]
      · rw [← hg, a2]; unfold gAr; rw [gA_sI]
    · rw [if_neg c1] at h
      rw [Int32.le_iff_toInt_le, h2, h6] at c1
      have htm : t < m := by omega
      obtain ⟨w1, w9⟩ := E_who hr htm
      have n9 := E_nx hr htm
      have i61 : (i6 + 1).toInt = (t + 1 : Nat) := by rw [zi_inc (n := 10) (by omega) (by omega), h6]; rfl
      obtain ⟨_, _, h⟩ := h
      obtain ⟨_, h⟩ := h _ rfl
      have ei : aG w c i6 = E (3 + t) := by rw [aG_n (m := t) h6]; exact hE t htm
      have e5 : ((i5 + 4) + i6).toInt = (10 * N + 4 + t : Nat) := by rw [zi_add (zi_add h5 four32 (by omega) (by omega)) h6 (by omega) (by omega)]; rfl
      rw [r4, ei] at h
      obtain ⟨w2, e2⟩ : ∃ w2, w2 = aS w (a + 7) ((i5 + 4) + i6) (E (3 + t)) := ⟨_, rfl⟩
      rw [← e2] at h
      have f2 : FM [] [a + 6, a + 7] w w2 := by rw [e2]; exact FM_aS hS (by simp)
      have S2 := f2.2.2.2
      have g2 : gAr w2 a = rgW E N (t + 1) G := by rw [e2, gAr_aS hS ok e5 (by omega), hg]; rfl
      have d2 : dA w2 a = dA w a := by rw [e2]; exact dA_ne (by omega)
      have gc : gA w2 c = gA w c := FM_a f2 (by simp; omega)
      have C2 : ECi w2 c m E := ⟨m2, m6, fun j hj => by rw [gc]; exact hE j hj, hr⟩
      have ei2 : aG w2 c i6 = E (3 + t) := by rw [aG_n (m := t) h6, gc]; exact hE t htm
      have r32 : gR w2 a 3 = a + 6 := (okS_r S2 ok).1
      -- the debt
      have go : ∀ nx : Int32, nx.toInt = (eNx E m t : Nat) → (∃ (r3 : Option Value) (w4 : pm_W), PS X k 52 0 [.int (aG w2 c i6), .int nx] [] w2 r3 w4 ∧ (∀ x5 : Int32, r3 = some (.int x5) → SK w4 → (aI w4 (gR w2 a 3) x5 ∧ (aI w4 (gR w2 a 3) x5 ∧ (∀ w6 : pm_W, w6 = aS w4 (gR w2 a 3) x5 ((aG w4 (gR w2 a 3) x5) + i3) → (PS X k 81 63 [.ref a, .ref c, .int i2, .int i3, .int i4, .int i5, .int (i6 + 1)] [] w6 r w')))))) → r = none ∧ FM [(a, 2)] [a + 6, a + 7] w0 w' ∧ (gI w' a 2).toInt = (N + 1 : Nat) ∧ dA w' a = adD E m i3 m D ∧ gAr w' a = rgW E N m G := by
        intro nx hnx z
        rw [ei2] at z
        obtain ⟨c4, hc4, z⟩ := use_z S2 z (fun _ _ y => F52n S2 w1 hnx w9 n9 y)
        obtain ⟨_, _, z⟩ := z
        have z := z _ rfl
        have c81 : eCl E m t < 81 := by unfold eCl; omega
        have hc4 : c4.toInt = (eCl E m t : Nat) := hc4
        rw [r32, aG_n (m := eCl E m t) hc4] at z
        have ed : (gA w2 (a + 6)).getD (eCl E m t) 0 = adD E m i3 t D (eCl E m t) := by
          rw [← hd, ← d2]
          rfl
        rw [ed] at z
        have f6 : FM [] [a + 6, a + 7] w2 (aS w2 (a + 6) c4 (adD E m i3 t D (eCl E m t) + i3)) := FM_aS S2 (by simp)
        have gc6 : gA (aS w2 (a + 6) c4 (adD E m i3 t D (eCl E m t) + i3)) c = gA w2 c := FM_a f6 (by simp; omega)
        refine ih _ (t + 1) (i6 + 1) (FM_trans f0 (FM_trans f2 f6)) ⟨m2, m6, fun j hj => by rw [gc6, gc]; exact hE j hj, hr⟩ i61 (by omega) ?_ ?_ ?_ z
        · rw [FM_i f6 (by intro z; cases z), FM_i f2 (by intro z; cases z)]; exact hN0
        · rw [dA_aS S2 ok hc4 c81, d2, hd]; rfl
        · rw [gAr_ne (by omega), g2]
      by_cases c2 : i2 ≤ i6 + 1
      · rw [if_pos c2] at h
        rw [Int32.le_iff_toInt_le, h2, i61] at c2
        have e0 : aG w2 c 0 = E (3 + 0) := by rw [aG_n (m := 0) z32, gc]; exact hE 0 (by omega)
        refine go (aG w2 c 0) ?_ h.2
        rw [e0]
        unfold eNx
        rw [if_neg (by omega)]
        exact (E_who hr (by omega)).1
      · rw [if_neg c2] at h
        rw [Int32.le_iff_toInt_le, h2, i61] at c2
        have e1 : aG w2 c (i6 + 1) = E (3 + (t + 1)) := by rw [aG_n (m := t + 1) i61, gc]; exact hE (t + 1) (by omega)
        refine go (aG w2 c (i6 + 1)) ?_ h.2
        rw [e1]
        unfold eNx
        rw [if_pos (by omega)]
        exact (E_who hr (by omega)).1
theorem F81 (hS : SK w) (ok : okS a = true) (hN : N < 37) (hN0 : (gI w a 2).toInt = N) (hca : c ≠ a + 6 ∧ c ≠ a + 7) (hC : ECi w c m E) (h2 : p2.toInt = m) (h : PS X k 81 0 [.ref a, .ref c, .int p2, .int p3, .int p4, pm_dead, pm_dead] [] w r w') : r = none ∧ FM [(a, 2)] [a + 6, a + 7] w w' ∧ (gI w' a 2).toInt = (N + 1 : Nat) ∧ dA w' a = adD E m p3 m (dA w a) ∧ gAr w' a = rgW E N m (rg4 N p2 p3 p4 (gAr w a)) := by
  cases k with
  | zero => exact (PS_0 h).elim
  | succ k =>
    have h := U81_0 hS h
    rw [if_pos (by rw [Int32.lt_iff_toInt_lt, hN0, show (37 : Int32).toInt = 37 from by decide +kernel]; omega)] at h
    have b0 : (gI w a 2 * 10).toInt = (10 * N : Nat) := by rw [zi_mul hN0 e10i (by omega) (by omega)]; omega
    have b00 : (gI w a 2 * 10 + 0).toInt = (10 * N : Nat) := by rw [zi_add b0 z32 (by omega) (by omega)]; omega
    have b1 : (gI w a 2 * 10 + 1).toInt = (10 * N + 1 : Nat) := by rw [zi_add b0 o32 (by omega) (by omega)]; rfl
    have b2 : (gI w a 2 * 10 + 2).toInt = (10 * N + 2 : Nat) := by rw [zi_add b0 two32 (by omega) (by omega)]; rfl
    have b3 : (gI w a 2 * 10 + 3).toInt = (10 * N + 3 : Nat) := by rw [zi_add b0 three32 (by omega) (by omega)]; rfl
    obtain ⟨_, h⟩ := h
    obtain ⟨_, h⟩ := h _ rfl
    obtain ⟨_, h⟩ := h _ rfl
    obtain ⟨_, h⟩ := h _ rfl
    have h := h _ rfl
    have R4 : ∀ w, SK w → gR w a 4 = a + 7 := fun w hS => (okS_r hS ok).2.1
    have S1 : SK (aS w (a + 7) (gI w a 2 * 10 + 0) p2) := SK_aS hS
    have S2 : SK (aS (aS w (a + 7) (gI w a 2 * 10 + 0) p2) (a + 7) (gI w a 2 * 10 + 1) p3) := SK_aS S1
    have S3 : SK (aS (aS (aS w (a + 7) (gI w a 2 * 10 + 0) p2) (a + 7) (gI w a 2 * 10 + 1) p3) (a + 7) (gI w a 2 * 10 + 2) p4) := SK_aS S2
    rw [R4 _ hS, R4 _ S1, R4 _ S2, R4 _ S3] at h
    obtain ⟨w4, e4⟩ : ∃ w4, w4 = aS (aS (aS (aS w (a + 7) (gI w a 2 * 10 + 0) p2) (a + 7) (gI w a 2 * 10 + 1) p3) (a + 7) (gI w a 2 * 10 + 2) p4) (a + 7) (gI w a 2 * 10 + 3) 1 := ⟨_, rfl⟩
    rw [← e4] at h
    have f4 : FM [] [a + 6, a + 7] w w4 := by
      rw [e4]
      exact FM_trans (FM_aS hS (by simp)) (FM_trans (FM_aS S1 (by simp)) (FM_trans (FM_aS S2 (by simp)) (FM_aS S3 (by simp))))
    have g4 : gAr w4 a = rg4 N p2 p3 p4 (gAr w a) := by
      rw [e4, gAr_aS S3 ok b3 (by omega), gAr_aS S2 ok b2 (by omega), gAr_aS S1 ok b1 (by omega), gAr_aS hS ok b00 (by omega)]
      rfl
    have d4 : dA w4 a = dA w a := by
      rw [e4, dA_ne (by omega), dA_ne (by omega), dA_ne (by omega), dA_ne (by omega)]
    obtain ⟨m2, m6, hE, hr⟩ := hC
    have gc : gA w4 c = gA w c := FM_a f4 (by simp; omega)
    have C4 : ECi w4 c m E := ⟨m2, m6, fun j hj => by rw [gc]; exact hE j hj, hr⟩
    obtain ⟨z1, z2, z3, z4, z5⟩ := F81_63 (w0 := w4) (D := dA w a) (G := rg4 N p2 p3 p4 (gAr w a)) ok hN hca h2 b0 _ w4 0 0 (FM_refl f4.2.2.2) C4 z32 (Nat.zero_le _) (by rw [FM_i f4 (by intro z; cases z)]; exact hN0) (by rw [d4]; rfl) (by rw [g4]; rfl) h
    exact ⟨z1, FM_trans (FM_mono f4 (by intro z hz; cases hz) (by simp)) z2, z3, z4, z5⟩
/-- a row's act, by number -/
def eR (w : pm_W) (b i t : Nat) : Int32 := (gA w (b + 1)).getD (9 * i + t) 0
theorem F68n {b : Nat} (hS : SK w) (ok : okR b = true) (hi : p1.toInt = i) (hi30 : i ≤ 29) (ht : p2.toInt = t) (ht9 : t < 9) (h : PS X k 68 0 [.ref b, .int p1, .int p2] [] w r w') : r = some (.int (eR w b i t)) ∧ w' = w := by
  obtain ⟨a1, a2⟩ := F68 hS (okR_r hS ok).1 h
  rw [aG_n (m := 9 * i + t) (by rw [zi_add (zi_mul hi nine32 (by omega) (by omega)) ht (by omega) (by omega)]; omega)] at a1
  exact ⟨a1, a2⟩
end HA
