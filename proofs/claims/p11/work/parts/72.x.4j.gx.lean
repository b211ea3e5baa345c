/-! ===== the reference's states ===== -/
section GX
variable {X : pm_X} {k k2 : Nat} {w0 w w1 w2 w' : pm_W} {r r2 : Option Value} {p p1 p2 p3 p4 p5 f0 p0 f q x y : Int32} {n i v j m s T L u V a N K P t : Nat} {D D' G G1 G2 : Nat → Int32} {b : Bool}
def dR (w : pm_W) (q : Nat) : Int32 := (gA w 152).getD q 0
def gRr (w : pm_W) (q : Nat) : Int32 := (gA w 153).getD q 0
theorem dR_aS (hS : SK w) (hj : x.toInt = j) (h : j < 81) : dR (aS w 152 x y) = updc (dR w) j y := by
  funext q
  unfold dR updc
  rw [gA_aS (SK_isA hS (by decide +kernel)), i_nat hj, getD_set (by rw [SK_len hS (a := 152) (n := 81) (by decide +kernel) (by decide)]; exact h)]
theorem gRr_aS (hS : SK w) (hj : x.toInt = j) (h : j < 400) : gRr (aS w 153 x y) = updc (gRr w) j y := by
  funext q
  unfold gRr updc
  rw [gA_aS (SK_isA hS (by decide +kernel)), i_nat hj, getD_set (by rw [SK_len hS (a := 153) (n := 400) (by decide +kernel) (by decide)]; exact h)]
theorem dR_ne {c : Nat} (h : c ≠ 152) : dR (aS w c x y) = dR w := by
  funext q
  unfold dR
  rw [gA_aS_ne h]
theorem gRr_ne {c : Nat} (h : c ≠ 153) : gRr (aS w c x y) = gRr w := by
  funext q
  unfold gRr
  rw [gA_aS_ne h]
theorem F234 (hS : SK w) (hk : p1.toInt = K) (hj : p2.toInt = j) (hK : K ≤ 38) (hj6 : j < 6) (h : PS X k 234 0 [.ref 147, .int p1, .int p2] [] w r w') : r = some (.int (gRr w (10 * K + 4 + j))) ∧ w' = w := by
  cases k with
  | zero => exact (PS_0 h).elim
  | succ k =>
    obtain ⟨_, h1, h2⟩ := U234_0 hS h
    rw [aG_n (m := 10 * K + 4 + j) (by rw [zi_add (zi_add (zi_mul e10i hk (by omega) (by omega)) four32 (by omega) (by omega)) hj (by omega) (by omega)]; omega)] at h1
    exact ⟨h1, h2⟩
theorem F236 (hS : SK w) (hk : p1.toInt = K) (hK : K ≤ 38) (h : PS X k 236 0 [.ref 147, .int p1] [] w r w') : r = some (.int (b2i (opn (gRr w) K))) ∧ w' = w := by
  cases k with
  | zero => exact (PS_0 h).elim
  | succ k =>
    obtain ⟨_, h⟩ := U236_0 hS h
    rw [aG_n (m := 10 * K + 3) (by rw [zi_add (zi_mul e10i hk (by omega) (by omega)) three32 (by omega) (by omega)]; omega)] at h
    unfold opn
    by_cases c : gRr w (10 * K + 3) = 1
    · rw [if_pos (show (gA w 153).getD (10 * K + 3) 0 = 1 from c)] at h
      rw [decide_eq_true c]
      exact h
    · rw [if_neg (show ¬ (gA w 153).getD (10 * K + 3) 0 = 1 from c)] at h
      rw [decide_eq_false c]
      exact h
theorem rk10 (hk : p1.toInt = K) (hK : K ≤ 38) : (10 * p1).toInt = (10 * K : Nat) := by
  rw [zi_mul e10i hk (by omega) (by omega)]
  omega
theorem F235 (hS : SK w) (hk : p1.toInt = K) (hj : p2.toInt = j) (hK : K ≤ 38) (hR : WRg P (gRr w) K) (hj6 : j < rMy (gRr w) K) (h : PS X k 235 0 [.ref 147, .int p1, .int p2] [] w r w') : ∃ z : Int32, z.toInt = (rNx (gRr w) K j : Nat) ∧ r = some (.int z) ∧ w' = w := by
  have m6 : rMy (gRr w) K ≤ 6 := by have := hR.2.1; unfold rMy; omega
  have hm : (gRr w (10 * K)).toInt = (rMy (gRr w) K : Nat) := by have := hR.1; unfold rMy; omega
  cases k with
  | zero => exact (PS_0 h).elim
  | succ k =>
    obtain ⟨_, h⟩ := U235_0 hS h
    have e1 : (p2 + 1).toInt = (j + 1 : Nat) := by rw [zi_add hj o32 (by omega) (by omega)]; rfl
    rw [aG_n (m := 10 * K) (rk10 hk hK)] at h
    have em : (gA w 153).getD (10 * K) 0 = gRr w (10 * K) := rfl
    rw [em] at h
    unfold rNx
    by_cases c : p2 + 1 = gRr w (10 * K)
    · rw [if_pos c] at h
      have c := congrArg Int32.toInt c
      rw [e1, hm] at c
      have h := use_p hS h (fun _ _ z => F234 (j := 0) hS hk z32 hK (by decide) z)
      have z := hR.2.2.2.2.2.2.2.1 0 (by omega)
      refine ⟨_, ?_, h.1, h.2⟩
      rw [if_neg (by omega)]
      unfold rWho
      omega
    · rw [if_neg c] at h
      have c : (j + 1 : Nat) ≠ rMy (gRr w) K := fun z => c (Int32.toInt_inj.mp (by rw [e1, hm, z]))
      have h := use_p hS h (fun _ _ z => F234 (j := j + 1) hS hk e1 hK (by omega) z)
      have z := hR.2.2.2.2.2.2.2.1 (j + 1) (by omega)
      refine ⟨_, ?_, h.1, h.2⟩
      rw [if_pos (by omega)]
      unfold rWho
      omega
theorem F237_2 {i1 : Int32} {P : Nat} (hP : P ≤ 9) (hk : i1.toInt = K) (hK : K ≤ 38) (hR : WRg P (gRr w0) K) (hD : WD P (dR w0)) : ∀ (k : Nat) (w : pm_W) (t : Nat) (i2 : Int32) (u3 : Value), FM [] [152] w0 w → SK w0 → i2.toInt = t → t ≤ rMy (gRr w0) K → dR w = stD (gRr w0) K t (dR w0) → PS X k 237 2 [.ref 147, .int i1, .int i2, u3] [] w r w' → r = none ∧ FM [] [152, 153] w0 w' ∧ dR w' = stD (gRr w0) K (rMy (gRr w0) K) (dR w0) ∧ gRr w' = stG (gRr w0) K := by
  intro k
  induction k with
  | zero => intro w t i2 u3 f0 hS0 h2 ht hd h; exact (PS_0 h).elim
  | succ k ih =>
    intro w t i2 u3 f0 hS0 h2 ht hd h
    have hS := f0.2.2.2
    obtain ⟨_, h⟩ := U237_2 hS h
    have m6 : rMy (gRr w0) K ≤ 6 := by have := hR.2.1; unfold rMy; omega
    have hm : (gRr w0 (10 * K)).toInt = (rMy (gRr w0) K : Nat) := by have := hR.1; unfold rMy; omega
    have eg : gRr w = gRr w0 := by funext q; unfold gRr; rw [FM_a f0 (by decide)]
    have em : aG w 153 (10 * i1) = gRr w0 (10 * K) := by rw [aG_n (m := 10 * K) (rk10 hk hK), ← eg]; rfl
    have en : aG w 153 (10 * i1 + 1) = gRr w0 (10 * K + 1) := by rw [aG_n (m := 10 * K + 1) (by rw [zi_add (rk10 hk hK) o32 (by omega) (by omega)]; rfl), ← eg]; rfl
    rw [em] at h
    by_cases c : gRr w0 (10 * K) ≤ i2
    · rw [if_pos c] at h
      rw [Int32.le_iff_toInt_le, hm, h2] at c
      have et : t = rMy (gRr w0) K := by omega
      obtain ⟨_, h⟩ := h
      obtain ⟨a1, a2⟩ := h _ rfl
      have ej : (10 * i1 + 3).toInt = (10 * K + 3 : Nat) := by rw [zi_add (rk10 hk hK) three32 (by omega) (by omega)]; rfl
      refine ⟨a1, FM_trans (FM_mono f0 (by decide) (by decide)) (by rw [a2]; exact FM_aS hS (by decide)), ?_, ?_⟩
      · rw [a2, dR_ne (by decide), hd, et]
      · rw [a2, gRr_aS hS ej (by omega), eg]
        rfl
    · rw [if_neg c] at h
      rw [Int32.le_iff_toInt_le, hm, h2] at c
      have h := use_p hS h (fun _ _ z => F234 (j := t) hS hk h2 hK (by omega) z)
      rw [eg] at h
      have who : (gRr w0 (10 * K + 4 + t)).toInt = (rWho (gRr w0) K t : Nat) := by
        have z := hR.2.2.2.2.2.2.2.1 t (by omega)
        unfold rWho
        omega
      have wP := WR_who hR (i := t) (by omega)
      have nP := WR_nx hR (i := t) (by omega)
      have hDt := WD_stD hP hR hD t (by omega)
      have i21 : (i2 + 1).toInt = (t + 1 : Nat) := by rw [zi_inc (n := 10) (by omega) (by omega), h2]; rfl
      obtain ⟨x7, h7, h⟩ := use_z hS h (fun _ _ z => F235 hS hk h2 hK (by rw [eg]; exact hR) (by rw [eg]; omega) z)
      rw [eg] at h7
      obtain ⟨_, _, h⟩ := h
      have ei : (9 * gRr w0 (10 * K + 4 + t) + x7).toInt = (rCl (gRr w0) K t : Nat) := by
        rw [zi_add (zi_mul nine32 who (by omega) (by omega)) h7 (by omega) (by omega)]
        unfold rCl
        omega
      have c81 : rCl (gRr w0) K t < 81 := by unfold rCl; omega
      have ed : aG w 152 (9 * gRr w0 (10 * K + 4 + t) + x7) = stD (gRr w0) K t (dR w0) (rCl (gRr w0) K t) := by
        rw [aG_n (m := rCl (gRr w0) K t) ei, ← hd]
        rfl
      rw [ed, en] at h
      by_cases c2 : gRr w0 (10 * K + 1) ≤ stD (gRr w0) K t (dR w0) (rCl (gRr w0) K t)
      · rw [if_pos c2] at h
        rw [Int32.le_iff_toInt_le] at c2
        obtain ⟨_, _, _, h⟩ := h
        have h := h _ rfl
        refine ih _ (t + 1) (i2 + 1) _ (FM_trans f0 (FM_aS hS (by decide))) hS0 i21 (by omega) ?_ h
        rw [dR_aS hS ei c81, hd]
        show _ = updc (stD (gRr w0) K t (dR w0)) (rCl (gRr w0) K t) (subZ (stD (gRr w0) K t (dR w0) (rCl (gRr w0) K t)) (gRr w0 (10 * K + 1)))
        unfold subZ
        rw [if_neg (by omega)]
      · rw [if_neg c2] at h
        rw [Int32.le_iff_toInt_le] at c2
        obtain ⟨_, h⟩ := h
        have h := h _ rfl
        refine ih _ (t + 1) (i2 + 1) _ (FM_trans f0 (FM_aS hS (by decide))) hS0 i21 (by omega) ?_ h
        rw [dR_aS hS ei c81, hd]
        show _ = updc (stD (gRr w0) K t (dR w0)) (rCl (gRr w0) K t) (subZ (stD (gRr w0) K t (dR w0) (rCl (gRr w0) K t)) (gRr w0 (10 * K + 1)))
        unfold subZ
        rw [if_pos (by omega)]
theorem F237 (hS : SK w) (hP : P ≤ 9) (hk : p1.toInt = K) (hK : K ≤ 38) (hR : WRg P (gRr w) K) (hD : WD P (dR w)) (h : PS X k 237 0 [.ref 147, .int p1, pm_dead, pm_dead] [] w r w') : r = none ∧ FM [] [152, 153] w w' ∧ dR w' = stD (gRr w) K (rMy (gRr w) K) (dR w) ∧ gRr w' = stG (gRr w) K := by
  cases k with
  | zero => exact (PS_0 h).elim
  | succ k => exact F237_2 hP hk hK hR hD _ w 0 _ _ (FM_refl hS) hS z32 (Nat.zero_le _) rfl (U237_0 hS h)
end GX
