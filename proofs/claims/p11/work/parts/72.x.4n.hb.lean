/-! ===== an act played (the class) ===== -/
section HB
variable {X : pm_X} {k k2 : Nat} {w0 w w1 w2 w' : pm_W} {r r2 : Option Value} {p p1 p2 p3 p4 p5 f0 p0 f q x y M nn : Int32} {n i v j m T L u a c N K P t s b : Nat} {D D' G G1 G2 V E : Nat → Int32}
theorem F79_5 (ok : okS a = true) (okr : okR b = true) (hab : b + 1 ≠ a + 8) (hi : p2.toInt = i) (hi30 : i ≤ 29) (hE : E = eR w0 b i) (hG : ERg E m) : ∀ (k : Nat) (w : pm_W) (t : Nat) (i3 i4 : Int32) (u5 : Value), FM [] [a + 8] w0 w → i4.toInt = t → t ≤ 6 → i3.toInt = (min t m : Nat) → (∀ j, j < min t m → (gA w (a + 8)).getD j 0 = E (3 + j)) → PS X k 79 5 [.ref a, .ref b, .int p2, .int i3, .int i4, u5] [] w r w' → ∃ (w1 : pm_W) (k' : Nat) (i3' : Int32), FM [] [a + 8] w0 w1 ∧ i3'.toInt = m ∧ (∀ j, j < m → (gA w1 (a + 8)).getD j 0 = E (3 + j)) ∧ (∃ (r1 : Option Value) (w2 : pm_W), PS X k' 68 0 [.ref b, .int p2, .int 1] [] w1 r1 w2 ∧ (∀ x3 : Int32, r1 = some (.int x3) → SK w2 → (∃ (r4 : Option Value) (w5 : pm_W), PS X k' 80 0 [.ref a, .ref (gR w2 a 5), .int i3', .int x3, pm_dead, pm_dead] [] w2 r4 w5 ∧ (∀ x6 : Int32, r4 = some (.int x6) → SK w5 → (if x6 = 0 then (r = some (.int 0) ∧ w' = w5) else (∃ (r7 : Option Value) (w8 : pm_W), PS X k' 68 0 [.ref b, .int p2, .int 2] [] w5 r7 w8 ∧ (∀ x9 : Int32, r7 = some (.int x9) → SK w8 → (∃ (r10 : Option Value) (w11 : pm_W), PS X k' 81 0 [.ref a, .ref (gR w5 a 5), .int i3', .int x3, .int x9, pm_dead, pm_dead] [] w8 r10 w11 ∧ (r10 = none → SK w11 → (r = some (.int 1) ∧ w' = w11)))))))))) := by
  intro k
  obtain ⟨m2, m6, hr, hd, hz⟩ := hG
  have m1 : ((-1 : Int32)).toInt = -1 := by decide +kernel
  induction k with
  | zero => intro w t i3 i4 u5 f0 h4 ht h3 hc h; exact (PS_0 h).elim
  | succ k ih =>
    intro w t i3 i4 u5 f0 h4 ht h3 hc h
    have hS := f0.2.2.2
    have h := U79_5 hS h
    have r5 : gR w a 5 = a + 8 := (okS_r hS ok).2.2.1
    by_cases c1 : 6 ≤ i4
    · rw [if_pos c1] at h
      rw [Int32.le_iff_toInt_le, six32, h4] at c1
      have et : min t m = m := by omega
      rw [et] at h3 hc
      exact ⟨w, k, i3, f0, h3, hc, h⟩
    · rw [if_neg c1] at h
      rw [Int32.le_iff_toInt_le, six32, h4] at c1
      have e3t : (3 + i4).toInt = (3 + t : Nat) := by rw [zi_add three32 h4 (by omega) (by omega)]; rfl
      have h := use_p hS h (fun _ _ z => F68n (t := 3 + t) hS okr hi hi30 e3t (by omega) z)
      have eE : eR w b i (3 + t) = E (3 + t) := by
        rw [hE]
        unfold eR
        rw [FM_a f0 (by simp <;> omega)]
      rw [eE] at h
      have i41 : (i4 + 1).toInt = (t + 1 : Nat) := by rw [zi_inc (n := 10) (by omega) (by omega), h4]; rfl
      by_cases c2 : E (3 + t) = -1
      · rw [if_pos c2] at h
        have htm : m ≤ t := by
          by_cases y : m ≤ t
          · exact y
          · have z := hr t (by omega)
            rw [c2, m1] at z
            omega
        refine ih w (t + 1) i3 (i4 + 1) _ f0 i41 (by omega) (by rw [h3]; congr 1; omega) (fun j hj => hc j (by omega)) h
      · rw [if_neg c2] at h
        have htm : t < m := by
          by_cases y : t < m
          · exact y
          · exact absurd (hz t (by omega) (by omega)) c2
        obtain ⟨_, h⟩ := h
        have h := h _ rfl
        rw [r5] at h
        have h3' : i3.toInt = t := by rw [h3]; congr 1; omega
        obtain ⟨_, _, _, _, _, _, _, i8, _, _, l8, _⟩ := okS_r hS ok
        have f2 : FM [] [a + 8] w (aS w (a + 8) i3 (E (3 + t))) := FM_aS hS (by simp)
        refine ih _ (t + 1) (i3 + 1) (i4 + 1) _ (FM_trans f0 f2) i41 (by omega) (by rw [zi_inc (n := 10) (by omega) (by omega), h3']; congr 1; omega) (fun j hj => ?_) h
        rw [gA_aS i8, i_nat h3', getD_set (by omega)]
        by_cases e : j = t
        · rw [if_pos e, e]
        · rw [if_neg e]; exact hc j (by omega)
theorem F79 (hS : SK w) (ok : okS a = true) (okr : okR b = true) (hab : b + 1 < a) (okv : okV v = true) (hva : v + 4 < a) (hv : gR w a 0 = v) (hP : (gI w v 0).toInt = P) (hP9 : P ≤ 9) (hN : N < 37) (hN0 : (gI w a 2).toInt = N) (hi : p2.toInt = i) (hi30 : i ≤ 29) (hG : ERg (eR w b i) m) (h : PS X k 79 0 [.ref a, .ref b, .int p2, pm_dead, pm_dead, pm_dead] [] w r w') : (fitS P (vcl w v) (dA w a) (eR w b i) m (eR w b i 1) ∧ r = some (.int 1) ∧ FM [(a, 2)] [a + 6, a + 7, a + 8] w w' ∧ (gI w' a 2).toInt = (N + 1 : Nat) ∧ dA w' a = adD (eR w b i) m (eR w b i 1) m (dA w a) ∧ gAr w' a = rgW (eR w b i) N m (rg4 N (Int32.ofNat m) (eR w b i 1) (eR w b i 2) (gAr w a))) ∨ (¬ fitS P (vcl w v) (dA w a) (eR w b i) m (eR w b i 1) ∧ r = some (.int 0) ∧ FM [] [a + 8] w w') := by
  cases k with
  | zero => exact (PS_0 h).elim
  | succ k =>
    have h := U79_0 hS h
    obtain ⟨m2, m6, hr, hd, hz⟩ := hG
    obtain ⟨w1, k', i3', f1, h3, hc, h⟩ := F79_5 (w0 := w) (E := eR w b i) ok okr (by omega) hi hi30 rfl ⟨m2, m6, hr, hd, hz⟩ _ w 0 0 0 _ (FM_refl hS) z32 (by decide) (by rw [z32]; rfl) (fun j hj => by omega) h
    have S1 := f1.2.2.2
    have eE : ∀ t, eR w1 b i t = eR w b i t := fun t => by unfold eR; rw [FM_a f1 (by simp <;> omega)]
    have h := use_p S1 h (fun _ _ z => F68n (t := 1) S1 okr hi hi30 o32 (by decide) z)
    rw [eE, (okS_r S1 ok).2.2.1] at h
    have hv1 : gR w1 a 0 = v := by rw [FM_r f1 (by intro z; cases z)]; exact hv
    have hP1 : (gI w1 v 0).toInt = P := by rw [FM_i f1 (by intro z; cases z)]; exact hP
    have ev : vcl w1 v = vcl w v := by
      funext q
      exact vcl_FMv hS f1 okv (by intro z; cases z) (by intro z; cases z) (by intro z; cases z) (by simp <;> omega) (by simp <;> omega) (by simp <;> omega) (by simp <;> omega) q
    have ed : dA w1 a = dA w a := by funext q; unfold dA; rw [FM_a f1 (by simp)]
    have eg : gAr w1 a = gAr w a := by funext q; unfold gAr; rw [FM_a f1 (by simp)]
    obtain ⟨r4, w5, q1, h⟩ := h
    obtain ⟨ew, hf⟩ := F80 S1 ok okv hv1 hP1 hP9 (E := eR w b i) ⟨m2, m6, hc, hr⟩ h3 q1
    subst w5
    rw [ev, ed] at hf
    rcases hf with ⟨y1, y2⟩ | ⟨y1, y2⟩
    · have h := h 1 y2 S1
      rw [if_neg (by decide +kernel)] at h
      have h := use_p S1 h (fun _ _ z => F68n (t := 2) S1 okr hi hi30 two32 (by decide) z)
      rw [eE, (okS_r S1 ok).2.2.1] at h
      obtain ⟨r10, w11, q2, h⟩ := h
      obtain ⟨z1, z2, z3, z4, z5⟩ := F81 S1 ok hN (by rw [FM_i f1 (by intro z; cases z)]; exact hN0) ⟨by omega, by omega⟩ (E := eR w b i) ⟨m2, m6, hc, hr⟩ h3 q2
      obtain ⟨b1, b2⟩ := h z1 z2.2.2.2
      subst w'
      refine Or.inl ⟨y1, b1, FM_trans (FM_mono f1 (by intro z hz; cases hz) (by simp)) (FM_mono z2 (by simp) (by simp)), z3, by rw [z4, ed], ?_⟩
      rw [z5, eg, show i3' = Int32.ofNat m from i32_of h3 (by omega)]
    · have h := h 0 y2 S1
      rw [if_pos rfl] at h
      rw [h.2]
      exact Or.inr ⟨y1, h.1, f1⟩
/-- what an act does: none, or the debts, rings' parts, month, how many rings -/
def AO : Type := Option ((Nat → Int32) × (Nat → Int32) × Int32 × Nat)
/-- an act E, played in a state: o the outcome -/
def ACT (P : Nat) (V E D G : Nat → Int32) (M : Int32) (N : Nat) (o : AO) : Prop := (E 0 = 0 ∧ ∃ x y : Nat, (E 1).toInt = x ∧ (E 2).toInt = y ∧ ((x < P ∧ y < P ∧ (E 3).toInt ≤ (rmI V D x y).toInt ∧ o = some (updc D (9 * x + y) (D (9 * x + y) + E 3), G, M, N)) ∨ (¬ (x < P ∧ y < P ∧ (E 3).toInt ≤ (rmI V D x y).toInt) ∧ o = none))) ∨ (E 0 = 1 ∧ ∃ x y : Nat, (E 1).toInt = x ∧ (E 2).toInt = y ∧ ((x < P ∧ y < P ∧ (E 3).toInt ≤ (D (9 * x + y)).toInt ∧ o = some (updc D (9 * x + y) (D (9 * x + y) - E 3), G, M, N)) ∨ (¬ (x < P ∧ y < P ∧ (E 3).toInt ≤ (D (9 * x + y)).toInt) ∧ o = none))) ∨ (E 0 = 2 ∧ ∃ m : Nat, ERg E m ∧ ((fitS P V D E m (E 1) ∧ o = some (adD E m (E 1) m D, rgW E N m (rg4 N (Int32.ofNat m) (E 1) (E 2) G), M, N + 1)) ∨ (¬ fitS P V D E m (E 1) ∧ o = none))) ∨ (E 0 = 3 ∧ ∃ K : Nat, (E 1).toInt = K ∧ ((K < N ∧ opn G K = true ∧ o = some ((strk K (D, G)).1, (strk K (D, G)).2, M, N)) ∨ (¬ (K < N ∧ opn G K = true) ∧ o = none))) ∨ (E 0 = 4 ∧ ∃ m : Nat, (E 1).toInt = m ∧ ((m < P ∧ o = some (zrL m P (flS (cF m) N (D, G)).1, (flS (cF m) N (D, G)).2, M, N)) ∨ (¬ m < P ∧ o = none))) ∨ (E 0 = 5 ∧ o = some ((flS (cM (M + 1)) N (D, G)).1, (flS (cM (M + 1)) N (D, G)).2, M + 1, N))
/-- the class's state at a is (D, G, M, N), in the village at v -/
def CSt (w : pm_W) (a v P : Nat) (D G : Nat → Int32) (M : Int32) (N : Nat) : Prop := gR w a 0 = v ∧ (gI w v 0).toInt = P ∧ dA w a = D ∧ gAr w a = G ∧ gI w a 1 = M ∧ (gI w a 2).toInt = N
theorem F75 (hS : SK w) (ok : okS a = true) (okr : okR b = true) (hab : b + 1 < a) (okv : okV v = true) (hva : v + 4 < a) (hC : CSt w a v P D G M N) (hP9 : P ≤ 9) (hN : N < 37) (hW : WS P N (D, G)) (hi : p2.toInt = i) (hi30 : i ≤ 29) (hA : VAc (eR w b i)) (h : PS X k 75 0 [.ref a, .ref b, .int p2, pm_dead, pm_dead, pm_dead] [] w r w') : FM [(a, 1), (a, 2)] [a + 6, a + 7, a + 8] w w' ∧ ∃ o : AO, ACT P (vcl w v) (eR w b i) D G M N o ∧ ((o = none ∧ r = some (.int 0)) ∨ (∃ (D' G' : Nat → Int32) (M' : Int32) (N' : Nat), o = some (D', G', M', N') ∧ r = some (.int 1) ∧ CSt w' a v P D' G' M' N')) := by
  obtain ⟨hv, hP, hD, hG, hM, hN0⟩ := hC
  have hWs : WS P N (sAg w a) := by unfold sAg; rw [hD, hG]; exact hW
  have ew : sAg w a = (D, G) := by unfold sAg; rw [hD, hG]
  have e8 : ∀ {z : Int32}, 0 ≤ z.toInt → z.toInt = z.toInt.toNat := fun h => by omega
  cases k with
  | zero => exact (PS_0 h).elim
  | succ k =>
    have h := use_p hS (U75_0 hS h) (fun _ _ z => F68n (t := 1) hS okr hi hi30 o32 (by decide) z)
    have h := use_p hS h (fun _ _ z => F68n (t := 2) hS okr hi hi30 two32 (by decide) z)
    have h := use_p hS h (fun _ _ z => F68n (t := 3) hS okr hi hi30 three32 (by decide) z)
    have h := use_p hS h (fun _ _ z => F68n (t := 0) hS okr hi hi30 z32 (by decide) z)
    -- a state of w' whose village, month, rings' number are as before
    have kp : ∀ {fs : List (Nat × Nat)} {as : List Nat} {D' G' : Nat → Int32}, FM fs as w w' → (a, 0) ∉ fs → (a, 1) ∉ fs → (a, 2) ∉ fs → (v, 0) ∉ fs → dA w' a = D' → gAr w' a = G' → CSt w' a v P D' G' M N := fun fm q0 q1 q2 qv hd hg => ⟨by rw [FM_r fm q0]; exact hv, by rw [FM_i fm qv]; exact hP, hd, hg, by rw [FM_i fm q1]; exact hM, by rw [FM_i fm q2]; exact hN0⟩
    rcases hA with ⟨h01, a1, a2, a3, a4, a5, a6, a7⟩ | ⟨h0, a1, a2, a3, a4, m, m2, m6, b1, b2, b3⟩ | ⟨h0, a1, a2⟩ | ⟨h0, a1, a2⟩ | h0
    · rcases h01 with h0 | h0
      · rw [if_pos h0] at h
        obtain ⟨r13, w14, q1, h⟩ := h
        rcases F76 hS ok okv hv hP hP9 (e8 a1) (e8 a3) (by omega) (by omega) q1 with ⟨y1, y2, y3, y4, y5⟩ | ⟨y1, y2, y3⟩
        · obtain ⟨z1, z2⟩ := h 1 y2 y3.2.2.2
          subst w'
          rw [hD] at y1 y4
          rw [hG] at y5
          refine ⟨FM_mono y3 (by intro z hz; cases hz) (by simp), _, Or.inl ⟨h0, _, _, e8 a1, e8 a3, Or.inl ⟨y1.1, y1.2.1, y1.2.2, rfl⟩⟩, Or.inr ⟨_, _, _, _, rfl, z1, kp y3 (by intro z; cases z) (by intro z; cases z) (by intro z; cases z) (by intro z; cases z) y4 y5⟩⟩
        · subst w14
          obtain ⟨z1, z2⟩ := h 0 y2 hS
          subst w'
          rw [hD] at y1
          exact ⟨FM_refl hS, none, Or.inl ⟨h0, _, _, e8 a1, e8 a3, Or.inr ⟨y1, rfl⟩⟩, Or.inl ⟨rfl, z1⟩⟩
      · rw [if_neg (by rw [h0]; decide +kernel), if_pos h0] at h
        obtain ⟨r13, w14, q1, h⟩ := h
        rcases F78 hS ok okv hv hP hP9 (e8 a1) (e8 a3) (by omega) (by omega) q1 with ⟨y1, y2, y3, y4, y5⟩ | ⟨y1, y2, y3⟩
        · obtain ⟨z1, z2⟩ := h 1 y2 y3.2.2.2
          subst w'
          rw [hD] at y1 y4
          rw [hG] at y5
          refine ⟨FM_mono y3 (by intro z hz; cases hz) (by simp), _, Or.inr (Or.inl ⟨h0, _, _, e8 a1, e8 a3, Or.inl ⟨y1.1, y1.2.1, y1.2.2, rfl⟩⟩), Or.inr ⟨_, _, _, _, rfl, z1, kp y3 (by intro z; cases z) (by intro z; cases z) (by intro z; cases z) (by intro z; cases z) y4 y5⟩⟩
        · subst w14
          obtain ⟨z1, z2⟩ := h 0 y2 hS
          subst w'
          rw [hD] at y1
          exact ⟨FM_refl hS, none, Or.inr (Or.inl ⟨h0, _, _, e8 a1, e8 a3, Or.inr ⟨y1, rfl⟩⟩), Or.inl ⟨rfl, z1⟩⟩
    · rw [if_neg (by rw [h0]; decide +kernel), if_neg (by rw [h0]; decide +kernel), if_pos h0] at h
      have hG' : ERg (eR w b i) m := ⟨m2, m6, b1, b2, b3⟩
      obtain ⟨r13, w14, q1, h⟩ := h
      rcases F79 hS ok okr hab okv hva hv hP hP9 hN hN0 hi hi30 hG' q1 with ⟨y1, y2, y3, y4, y5, y6⟩ | ⟨y1, y2, y3⟩
      · obtain ⟨z1, z2⟩ := h 1 y2 y3.2.2.2
        subst w'
        rw [hD] at y1 y5
        rw [hG] at y6
        refine ⟨FM_mono y3 (by simp) (by simp), _, Or.inr (Or.inr (Or.inl ⟨h0, m, hG', Or.inl ⟨y1, rfl⟩⟩)), Or.inr ⟨_, _, _, _, rfl, z1, by rw [FM_r y3 (by simp)]; exact hv, by rw [FM_i y3 (by simp <;> omega)]; exact hP, y5, y6, by rw [FM_i y3 (by simp)]; exact hM, y4⟩⟩
      · obtain ⟨z1, z2⟩ := h 0 y2 y3.2.2.2
        subst w'
        rw [hD] at y1
        exact ⟨FM_mono y3 (by intro z hz; cases hz) (by simp), none, Or.inr (Or.inr (Or.inl ⟨h0, m, hG', Or.inr ⟨y1, rfl⟩⟩)), Or.inl ⟨rfl, z1⟩⟩
    · rw [if_neg (by rw [h0]; decide +kernel), if_neg (by rw [h0]; decide +kernel), if_neg (by rw [h0]; decide +kernel), if_pos h0] at h
      obtain ⟨r13, w14, q1, h⟩ := h
      rcases F82 hS ok hP9 (by omega) hWs hN0 (e8 a1) q1 with ⟨y1, y2, y3, y4⟩ | ⟨y1, y2, y3⟩
      · obtain ⟨z1, z2⟩ := h 1 y2 y3.2.2.2
        subst w'
        rw [hG] at y1
        rw [ew] at y4
        refine ⟨FM_mono y3 (by intro z hz; cases hz) (by simp), _, Or.inr (Or.inr (Or.inr (Or.inl ⟨h0, _, e8 a1, Or.inl ⟨y1.1, y1.2, rfl⟩⟩))), Or.inr ⟨_, _, _, _, rfl, z1, kp y3 (by intro z; cases z) (by intro z; cases z) (by intro z; cases z) (by intro z; cases z) (congrArg Prod.fst y4) (congrArg Prod.snd y4)⟩⟩
      · subst w14
        obtain ⟨z1, z2⟩ := h 0 y2 hS
        subst w'
        rw [hG] at y1
        exact ⟨FM_refl hS, none, Or.inr (Or.inr (Or.inr (Or.inl ⟨h0, _, e8 a1, Or.inr ⟨y1, rfl⟩⟩))), Or.inl ⟨rfl, z1⟩⟩
    · rw [if_neg (by rw [h0]; decide +kernel), if_neg (by rw [h0]; decide +kernel), if_neg (by rw [h0]; decide +kernel), if_neg (by rw [h0]; decide +kernel), if_pos h0] at h
      obtain ⟨r13, w14, q1, h⟩ := h
      obtain ⟨y0, y⟩ := F86 hS ok hP9 (by omega) hWs (by rw [hv]; exact hP) hN0 (e8 a1) q1
      rcases y with ⟨y1, y2, y3⟩ | ⟨y1, y2, y3, y4⟩
      · subst w14
        obtain ⟨z1, z2⟩ := h 0 y2 hS
        subst w'
        exact ⟨FM_refl hS, none, Or.inr (Or.inr (Or.inr (Or.inr (Or.inl ⟨h0, _, e8 a1, Or.inr ⟨by omega, rfl⟩⟩)))), Or.inl ⟨rfl, z1⟩⟩
      · obtain ⟨z1, z2⟩ := h 1 y2 y0.2.2.2
        subst w'
        rw [ew] at y3 y4
        exact ⟨FM_mono y0 (by intro z hz; cases hz) (by simp), _, Or.inr (Or.inr (Or.inr (Or.inr (Or.inl ⟨h0, _, e8 a1, Or.inl ⟨y1, rfl⟩⟩)))), Or.inr ⟨_, _, _, _, rfl, z1, kp y0 (by intro z; cases z) (by intro z; cases z) (by intro z; cases z) (by intro z; cases z) y3 y4⟩⟩
    · rw [if_neg (by rw [h0]; decide +kernel), if_neg (by rw [h0]; decide +kernel), if_neg (by rw [h0]; decide +kernel), if_neg (by rw [h0]; decide +kernel), if_neg (by rw [h0]; decide +kernel)] at h
      obtain ⟨r13, w14, q1, h⟩ := h
      obtain ⟨y1, y2, y3, y4⟩ := F90 hS ok hP9 (by omega) hWs hN0 q1
      obtain ⟨z1, z2⟩ := h 1 y1 y2.2.2.2
      subst w'
      rw [hM] at y3 y4
      rw [ew] at y4
      refine ⟨FM_mono y2 (by simp) (by simp), _, Or.inr (Or.inr (Or.inr (Or.inr (Or.inr ⟨h0, rfl⟩)))), Or.inr ⟨_, _, _, _, rfl, z1, by rw [FM_r y2 (by simp)]; exact hv, by rw [FM_i y2 (by simp <;> omega)]; exact hP, congrArg Prod.fst y4, congrArg Prod.snd y4, y3, by rw [FM_i y2 (by simp)]; exact hN0⟩⟩
end HB
