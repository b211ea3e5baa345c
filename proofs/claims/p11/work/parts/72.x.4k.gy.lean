/-! ===== rings struck one by one: who fails, months ===== -/
section GY
variable {X : pm_X} {k k2 : Nat} {w0 w w1 w2 w' : pm_W} {r r2 : Option Value} {p p1 p2 p3 p4 p5 f0 p0 f q x y M : Int32} {n i v j m T L u V a N K P t : Nat} {D D' G G1 G2 : Nat → Int32} {b : Bool}
def strk (k : Nat) (s : (Nat → Int32) × (Nat → Int32)) : (Nat → Int32) × (Nat → Int32) := (stD s.2 k (rMy s.2 k) s.1, stG s.2 k)
def flS (c : (Nat → Int32) → Nat → Bool) : Nat → (Nat → Int32) × (Nat → Int32) → (Nat → Int32) × (Nat → Int32)
  | 0, s => s
  | k + 1, s => cond (c (flS c k s).2 k) (strk k (flS c k s)) (flS c k s)
def cF (p : Nat) (G : Nat → Int32) (k : Nat) : Bool := opn G k && inR G k p (rMy G k)
def cM (M : Int32) (G : Nat → Int32) (k : Nat) : Bool := opn G k && decide ((G (10 * k + 2)).toInt < M.toInt)
def WS (P N : Nat) (s : (Nat → Int32) × (Nat → Int32)) : Prop := WD P s.1 ∧ ∀ k, k < N → WRg P s.2 k
theorem WS_strk {s : (Nat → Int32) × (Nat → Int32)} (hP : P ≤ 9) (h : WS P N s) (hk : k < N) : WS P N (strk k s) := ⟨WD_stD hP (h.2 k hk) h.1 _ (Nat.le_refl _), fun m hm => WR_st (h.2 m hm)⟩
theorem WS_flS {c : (Nat → Int32) → Nat → Bool} {s : (Nat → Int32) × (Nat → Int32)} (hP : P ≤ 9) (h : WS P N s) : ∀ n, n ≤ N → WS P N (flS c n s)
  | 0, _ => h
  | n + 1, hn => by
    have z := WS_flS (c := c) hP h n (by omega)
    show WS P N (cond (c (flS c n s).2 n) (strk n (flS c n s)) (flS c n s))
    cases c (flS c n s).2 n with
    | true => exact WS_strk hP z (by omega)
    | false => exact z
theorem flS_RG {c : (Nat → Int32) → Nat → Bool} (hP : P ≤ 9) (h : RG2 N G1 G2) (hW : WS P N (D, G1)) (hc : ∀ G1 G2, RG2 N G1 G2 → ∀ k, k < N → c G2 k = c G1 k) : ∀ n, n ≤ N → (flS c n (D, G2)).1 = (flS c n (D, G1)).1 ∧ RG2 N (flS c n (D, G1)).2 (flS c n (D, G2)).2
  | 0, _ => ⟨rfl, h⟩
  | n + 1, hn => by
    obtain ⟨z1, z2⟩ := flS_RG hP h hW hc n (by omega)
    have hw := WS_flS (c := c) hP hW n (by omega)
    show (cond (c (flS c n (D, G2)).2 n) (strk n (flS c n (D, G2))) (flS c n (D, G2))).1 = (cond (c (flS c n (D, G1)).2 n) (strk n (flS c n (D, G1))) (flS c n (D, G1))).1 ∧ RG2 N (cond (c (flS c n (D, G1)).2 n) (strk n (flS c n (D, G1))) (flS c n (D, G1))).2 (cond (c (flS c n (D, G2)).2 n) (strk n (flS c n (D, G2))) (flS c n (D, G2))).2
    rw [hc _ _ z2 n (by omega)]
    have hR := hw.2 n (by omega)
    have h1 : 1 ≤ rMy (flS c n (D, G1)).2 n := by have := hR.1; unfold rMy; omega
    cases c (flS c n (D, G1)).2 n with
    | true =>
      refine ⟨?_, RG2_stG z2⟩
      show stD (flS c n (D, G2)).2 n (rMy (flS c n (D, G2)).2 n) (flS c n (D, G2)).1 = stD (flS c n (D, G1)).2 n (rMy (flS c n (D, G1)).2 n) (flS c n (D, G1)).1
      rw [RG2_my z2 (by omega), RG2_stD z2 (by omega) h1 _ (Nat.le_refl _), z1]
    | false => exact ⟨z1, z2⟩
theorem cF_RG (h : RG2 N G1 G2) (hk : k < N) : cF m G2 k = cF m G1 k := by
  unfold cF
  rw [opn_RG h hk, RG2_my h hk, inR_RG h hk _ (Nat.le_refl _)]
theorem cM_RG (h : RG2 N G1 G2) (hk : k < N) : cM M G2 k = cM M G1 k := by
  unfold cM
  rw [opn_RG h hk, h k hk 2 (by omega)]
/-- all that one owes or is owed, to the first n -/
def zrL (p : Nat) : Nat → (Nat → Int32) → (Nat → Int32)
  | 0, D => D
  | o + 1, D => updc (updc (zrL p o D) (9 * p + o) 0) (9 * o + p) 0
theorem zrL_q (hm : m < 9) : ∀ n, n ≤ 9 → ∀ q, zrL m n D q = if (q / 9 = m ∧ q % 9 < n) ∨ (q % 9 = m ∧ q / 9 < n) then 0 else D q
  | 0, _, q => by rw [if_neg (by omega)]; rfl
  | n + 1, hn, q => by
    show (if q = 9 * n + m then 0 else (if q = 9 * m + n then 0 else zrL m n D q)) = _
    rw [zrL_q hm n (by omega) q]
    by_cases c1 : q = 9 * n + m
    · rw [if_pos c1, if_pos (by omega)]
    rw [if_neg c1]
    by_cases c2 : q = 9 * m + n
    · rw [if_pos c2, if_pos (by omega)]
    rw [if_neg c2]
    by_cases c3 : (q / 9 = m ∧ q % 9 < n) ∨ (q % 9 = m ∧ q / 9 < n)
    · rw [if_pos c3, if_pos (by omega)]
    · rw [if_neg c3, if_neg (by omega)]
theorem zrL_9 (hP : P ≤ 9) (hm : m < P) (hD : WD P D) (h81 : ∀ q, 81 ≤ q → D q = 0) : zrL m 9 D = zrL m P D := by
  funext q
  rw [zrL_q (by omega) 9 (by omega), zrL_q (by omega) P hP]
  by_cases c1 : (q / 9 = m ∧ q % 9 < P) ∨ (q % 9 = m ∧ q / 9 < P)
  · rw [if_pos c1, if_pos (by omega)]
  · rw [if_neg c1]
    by_cases c2 : (q / 9 = m ∧ q % 9 < 9) ∨ (q % 9 = m ∧ q / 9 < 9)
    · rw [if_pos c2]
      by_cases c3 : q < 81
      · have z := hD.2 (q / 9) (q % 9) (by omega) (by omega) (by omega)
        rw [show 9 * (q / 9) + q % 9 = q by omega] at z
        exact z.symm
      · exact (h81 q (by omega)).symm
    · rw [if_neg c2]
theorem WD_zrL (hm : m < 9) (hD : WD P D) (hn : n ≤ 9) : WD P (zrL m n D) := by
  refine ⟨fun q => ?_, fun x y hx hy hxy => ?_⟩
  · rw [zrL_q hm n hn]
    split
    · decide
    · exact hD.1 q
  · rw [zrL_q hm n hn]
    split
    · rfl
    · exact hD.2 x y hx hy hxy
/-! the class -/
theorem bit_z {S b : Nat} {x y : Int32} (hx : x.toInt = S) (hy : y.toInt = b) (hS : S < 512) (hb : b < 9) : ((x >>> (y &&& 31)) &&& 1) = 0 ↔ S.testBit b = false := by
  have ex := i32_of hx (by omega)
  have ey := i32_of hy (by omega)
  have h : (List.range 512).all (fun S => (List.range 9).all (fun b => decide (((Int32.ofNat S >>> (Int32.ofNat b &&& 31)) &&& 1) = 0) == !S.testBit b)) = true := by decide +kernel
  have h1 := List.all_eq_true.mp h S (List.mem_range.mpr hS)
  have h2 := List.all_eq_true.mp h1 b (List.mem_range.mpr hb)
  have h3 := eq_of_beq h2
  rw [← ex, ← ey] at h3
  cases hh : S.testBit b with
  | true =>
    rw [hh] at h3
    exact ⟨fun z => absurd z (of_decide_eq_false h3), fun z => Bool.noConfusion z⟩
  | false =>
    rw [hh] at h3
    exact ⟨fun _ => rfl, fun _ => of_decide_eq_true h3⟩
theorem F88_4 (ok : okS a = true) (hP : P ≤ 9) (hS : SK w) (hk : p1.toInt = K) (hK : K ≤ 36) (hR : WRg P (gAr w a) K) : ∀ (k t S : Nat) (i2 i3 : Int32), i2.toInt = S → S < 512 → i3.toInt = t → t ≤ rMy (gAr w a) K → (∀ b, b < 9 → S.testBit b = inR (gAr w a) K b t) → PS X k 88 4 [.ref a, .int p1, .int i2, .int i3] [] w r w' → ∃ (z : Int32) (S' : Nat), (z.toInt = S' ∧ S' < 512 ∧ ∀ b, b < 9 → S'.testBit b = inR (gAr w a) K b (rMy (gAr w a) K)) ∧ r = some (.int z) ∧ w' = w := by
  intro k
  have m6 : rMy (gAr w a) K ≤ 6 := by have := hR.2.1; unfold rMy; omega
  have hm : (gAr w a (10 * K)).toInt = (rMy (gAr w a) K : Nat) := by have := hR.1; unfold rMy; omega
  induction k with
  | zero => intro t S i2 i3 h2 hS5 h3 ht hb h; exact (PS_0 h).elim
  | succ k ih =>
    intro t S i2 i3 h2 hS5 h3 ht hb h
    have h := use_p hS (U88_4 hS h) (fun _ _ z => F84 (j := 0) hS ok hk z32 hK (by decide) z)
    rw [Nat.add_zero] at h
    by_cases c : gAr w a (10 * K) ≤ i3
    · rw [if_pos c] at h
      rw [Int32.le_iff_toInt_le, hm, h3] at c
      have et : t = rMy (gAr w a) K := by omega
      rw [et] at hb
      exact ⟨i2, S, ⟨h2, hS5, hb⟩, h.1, h.2⟩
    · rw [if_neg c] at h
      rw [Int32.le_iff_toInt_le, hm, h3] at c
      have h := use_p hS h (fun _ _ z => F84 (j := 4 + t) hS ok hk (by rw [zi_add four32 h3 (by omega) (by omega)]; rfl) hK (by omega) z)
      have who : (gAr w a (10 * K + (4 + t))).toInt = (rWho (gAr w a) K t : Nat) := by
        have z := hR.2.2.2.2.2.2.2.1 t (by omega)
        unfold rWho
        rw [show 10 * K + (4 + t) = 10 * K + 4 + t by omega]
        omega
      have wP := WR_who hR (i := t) (by omega)
      obtain ⟨o1, o2⟩ := bit_o h2 who hS5 (by omega)
      refine ih (t + 1) (S ||| 2 ^ rWho (gAr w a) K t) _ _ o1 o2 (by rw [zi_inc (n := 10) (by omega) (by omega), h3]; rfl) (by omega) (fun b hb9 => ?_) h
      rw [bit_r, hb b hb9]
      rfl
theorem F88 (ok : okS a = true) (hP : P ≤ 9) (hS : SK w) (hk : p1.toInt = K) (hK : K ≤ 36) (hR : WRg P (gAr w a) K) (h : PS X k 88 0 [.ref a, .int p1, pm_dead, pm_dead] [] w r w') : ∃ (z : Int32), (∃ S : Nat, z.toInt = S ∧ S < 512 ∧ ∀ b, b < 9 → S.testBit b = inR (gAr w a) K b (rMy (gAr w a) K)) ∧ r = some (.int z) ∧ w' = w := by
  cases k with
  | zero => exact (PS_0 h).elim
  | succ k =>
    obtain ⟨z, S, z1, z2, z3⟩ := F88_4 ok hP hS hk hK hR _ 0 0 _ _ z32 (by decide) z32 (Nat.zero_le _) (fun b _ => by rw [Nat.zero_testBit]; rfl) (U88_0 hS h)
    exact ⟨z, ⟨S, z1⟩, z2, z3⟩
theorem F89 {S b : Nat} (hS : SK w) (hx : p1.toInt = S) (hy : p2.toInt = b) (hS5 : S < 512) (hb : b < 9) (h : PS X k 89 0 [.int p1, .int p2] [] w r w') : r = some (.int (b2i (S.testBit b))) ∧ w' = w := by
  cases k with
  | zero => exact (PS_0 h).elim
  | succ k =>
    have h := U89_0 hS h
    by_cases c : ((p1 >>> (p2 &&& 31)) &&& 1) = 0
    · rw [if_pos c] at h
      rw [(bit_z hx hy hS5 hb).mp c]
      exact h
    · rw [if_neg c] at h
      have e : S.testBit b = true := by
        cases hh : S.testBit b with
        | true => rfl
        | false => exact absurd ((bit_z hx hy hS5 hb).mpr hh) c
      rw [e]
      exact h
theorem F87 (ok : okS a = true) (hP : P ≤ 9) (hS : SK w) (hk : p1.toInt = K) (hK : K ≤ 36) (hR : WRg P (gAr w a) K) (hm : p2.toInt = m) (hm9 : m < 9) (h : PS X k 87 0 [.ref a, .int p1, .int p2] [] w r w') : r = some (.int (b2i (cF m (gAr w a) K))) ∧ w' = w := by
  cases k with
  | zero => exact (PS_0 h).elim
  | succ k =>
    have h := use_p hS (U87_0 hS h) (fun _ _ z => F83 hS ok hk hK z)
    unfold cF
    cases ho : opn (gAr w a) K with
    | false =>
      rw [ho, if_pos (by decide +kernel)] at h
      exact h
    | true =>
      rw [ho, if_neg (by decide +kernel)] at h
      obtain ⟨z, ⟨S, s1, s2, s3⟩, h⟩ := use_z hS h (fun _ _ z => F88 ok hP hS hk hK hR z)
      have h := use_p hS h (fun _ _ z => F89 hS s1 hm s2 hm9 z)
      rw [s3 m hm9] at h
      show r = some (.int (b2i (true && inR (gAr w a) K m (rMy (gAr w a) K)))) ∧ w' = w
      rw [Bool.true_and]
      cases hi : inR (gAr w a) K m (rMy (gAr w a) K) with
      | false => rw [hi, if_pos (by decide +kernel)] at h; exact h
      | true => rw [hi, if_neg (by decide +kernel)] at h; exact h
/-- the state at a, as functions -/
def sAg (w : pm_W) (a : Nat) : (Nat → Int32) × (Nat → Int32) := (dA w a, gAr w a)
theorem F85s (hS : SK w) (ok : okS a = true) (hP : P ≤ 9) (hk : p1.toInt = K) (hK : K ≤ 36) (hKN : K < N) (hW : WS P N (sAg w a)) (h : PS X k 85 0 [.ref a, .int p1, pm_dead, pm_dead, pm_dead, pm_dead, pm_dead] [] w r w') : r = none ∧ FM [] [a + 6, a + 7] w w' ∧ sAg w' a = strk K (sAg w a) := by
  obtain ⟨z1, z2, z3, z4⟩ := F85 hS ok hP hk hK (hW.2 K hKN) hW.1 h
  refine ⟨z1, z2, ?_⟩
  unfold sAg strk
  rw [z3, z4]
theorem F86_15 (ok : okS a = true) (hP : P ≤ 9) (hN : N ≤ 37) (hW : WS P N (sAg w0 a)) (hm : p1.toInt = m) (hm9 : m < 9) : ∀ (k : Nat) (w : pm_W) (t : Nat) (i2 : Int32), FM [] [a + 6, a + 7] w0 w → (gI w a 2).toInt = N → i2.toInt = t → t ≤ N → sAg w a = flS (cF m) t (sAg w0 a) → PS X k 86 15 [.ref a, .int p1, .int i2] [] w r w' → ∃ (w1 : pm_W) (k' : Nat), FM [] [a + 6, a + 7] w0 w1 ∧ sAg w1 a = flS (cF m) N (sAg w0 a) ∧ PS X k' 86 45 [.ref a, .int p1, .int 0] [] w1 r w' := by
  intro k
  induction k with
  | zero => intro w t i2 f0 g2 h2 ht hs h; exact (PS_0 h).elim
  | succ k ih =>
    intro w t i2 f0 g2 h2 ht hs h
    have hS := f0.2.2.2
    have h := U86_15 hS h
    by_cases c : gI w a 2 ≤ i2
    · rw [if_pos c] at h
      rw [Int32.le_iff_toInt_le, g2, h2] at c
      have et : t = N := by omega
      rw [et] at hs
      exact ⟨w, k, f0, hs, h⟩
    · rw [if_neg c] at h
      rw [Int32.le_iff_toInt_le, g2, h2] at c
      have hWt : WS P N (sAg w a) := by rw [hs]; exact WS_flS hP hW t ht
      have h := use_p hS h (fun _ _ z => F87 ok hP hS h2 (by omega) (hWt.2 t (by omega)) hm hm9 z)
      have i21 : (i2 + 1).toInt = (t + 1 : Nat) := by rw [zi_inc (n := 37) (by omega) (by omega), h2]; rfl
      have eg : cF m (gAr w a) t = cF m (flS (cF m) t (sAg w0 a)).2 t := by rw [← hs]; rfl
      have e1 : flS (cF m) (t + 1) (sAg w0 a) = cond (cF m (gAr w a) t) (strk t (flS (cF m) t (sAg w0 a))) (flS (cF m) t (sAg w0 a)) := by rw [eg]; rfl
      cases hc : cF m (gAr w a) t with
      | false =>
        rw [hc] at e1
        rw [hc, if_pos (by decide +kernel)] at h
        exact ih w (t + 1) (i2 + 1) f0 g2 i21 (by omega) (hs.trans e1.symm) h
      | true =>
        rw [hc] at e1
        rw [hc, if_neg (by decide +kernel)] at h
        obtain ⟨r4, w5, q1, q2⟩ := h
        obtain ⟨a1, a2, a3⟩ := F85s hS ok hP h2 (by omega) (by omega) hWt q1
        refine ih w5 (t + 1) (i2 + 1) (FM_trans f0 a2) (by rw [FM_i a2 (by intro z; cases z)]; exact g2) i21 (by omega) ?_ (q2 a1 a2.2.2.2)
        rw [a3, hs]
        exact e1.symm
theorem F86_45 (ok : okS a = true) (hP : P ≤ 9) (hm : p1.toInt = m) (hmP : m < P) : ∀ (k : Nat) (w : pm_W) (t : Nat) (i2 : Int32), FM [] [a + 6, a + 7] w0 w → (gI w (gR w a 0) 0).toInt = P → i2.toInt = t → t ≤ P → dA w a = zrL m t (dA w0 a) → gAr w a = gAr w0 a → PS X k 86 45 [.ref a, .int p1, .int i2] [] w r w' → r = some (.int 1) ∧ FM [] [a + 6, a + 7] w0 w' ∧ dA w' a = zrL m P (dA w0 a) ∧ gAr w' a = gAr w0 a := by
  intro k
  induction k with
  | zero => intro w t i2 f0 gp h2 ht hd hg h; exact (PS_0 h).elim
  | succ k ih =>
    intro w t i2 f0 gp h2 ht hd hg h
    have hS := f0.2.2.2
    obtain ⟨r3, r4, _⟩ := okS_r hS ok
    have h := U86_45 hS h
    by_cases c : gI w (gR w a 0) 0 ≤ i2
    · rw [if_pos c] at h
      rw [Int32.le_iff_toInt_le, gp, h2] at c
      obtain ⟨h1, h2'⟩ := h
      subst w'
      have et : t = P := by omega
      rw [et] at hd
      exact ⟨h1, f0, hd, hg⟩
    · rw [if_neg c] at h
      rw [Int32.le_iff_toInt_le, gp, h2] at c
      obtain ⟨c1, hc1, h⟩ := use_z hS h (fun _ _ y => F52n hS hm h2 (by omega) (by omega) y)
      obtain ⟨_, h⟩ := h
      have h := h _ rfl
      rw [r3] at h
      obtain ⟨w4, e4⟩ : ∃ w4, w4 = aS w (a + 6) c1 0 := ⟨_, rfl⟩
      rw [← e4] at h
      have f4 : FM [] [a + 6, a + 7] w w4 := by rw [e4]; exact FM_aS hS (by simp)
      have S4 := f4.2.2.2
      have d4 : dA w4 a = updc (dA w a) (9 * m + t) 0 := by rw [e4]; exact dA_aS hS ok hc1 (by omega)
      have g4 : gAr w4 a = gAr w a := by rw [e4]; exact gAr_ne (by omega)
      obtain ⟨c2, hc2, h⟩ := use_z S4 h (fun _ _ y => F52n S4 h2 hm (by omega) (by omega) y)
      obtain ⟨_, h⟩ := h
      have h := h _ rfl
      rw [(okS_r S4 ok).1] at h
      have f8 : FM [] [a + 6, a + 7] w4 (aS w4 (a + 6) c2 0) := FM_aS S4 (by simp)
      refine ih _ (t + 1) (i2 + 1) (FM_trans f0 (FM_trans f4 f8)) ?_ (by rw [zi_inc (n := 37) (by omega) (by omega), h2]; rfl) (by omega) ?_ ?_ h
      · rw [FM_r f8 (by intro z; cases z), FM_r f4 (by intro z; cases z), FM_i f8 (by intro z; cases z), FM_i f4 (by intro z; cases z)]
        exact gp
      · rw [dA_aS S4 ok hc2 (by omega), d4, hd]
        rfl
      · rw [gAr_ne (by omega), g4]
        exact hg
/-- one fails -/
theorem F86 (hS : SK w) (ok : okS a = true) (hP : P ≤ 9) (hN : N ≤ 37) (hW : WS P N (sAg w a)) (hP0 : (gI w (gR w a 0) 0).toInt = P) (hN0 : (gI w a 2).toInt = N) (hm : p1.toInt = m) (h : PS X k 86 0 [.ref a, .int p1, pm_dead] [] w r w') : FM [] [a + 6, a + 7] w w' ∧ ((P ≤ m ∧ r = some (.int 0) ∧ w' = w) ∨ (m < P ∧ r = some (.int 1) ∧ dA w' a = zrL m P (flS (cF m) N (sAg w a)).1 ∧ gAr w' a = (flS (cF m) N (sAg w a)).2)) := by
  cases k with
  | zero => exact (PS_0 h).elim
  | succ k =>
    have h := use_p hS (U86_0 hS h) (fun _ _ z => F61 hS hP0 z)
    by_cases c : 0 ≤ p1.toInt ∧ p1.toInt < P
    · have h := ifb_t c h
      obtain ⟨w1, k', a1, a2, h⟩ := F86_15 ok hP hN hW hm (by omega) _ w 0 0 (FM_refl hS) hN0 z32 (Nat.zero_le _) rfl h
      obtain ⟨b1, b2, b3, b4⟩ := F86_45 (w0 := w1) ok hP hm (by omega) _ w1 0 0 (FM_refl a1.2.2.2) (by rw [FM_r a1 (by intro z; cases z), FM_i a1 (by intro z; cases z)]; exact hP0) z32 (Nat.zero_le _) rfl rfl h
      refine ⟨FM_trans a1 b2, Or.inr ⟨by omega, b1, ?_, ?_⟩⟩
      · rw [b3, ← a2]
        rfl
      · rw [b4, ← a2]
        rfl
    · have h := ifb_f c h
      obtain ⟨h1, h2⟩ := h
      subst w'
      exact ⟨FM_refl hS, Or.inl ⟨by omega, h1, rfl⟩⟩
theorem F90_12 (ok : okS a = true) (hP : P ≤ 9) (hN : N ≤ 37) (hW : WS P N (sAg w0 a)) (hM0 : gI w0 a 1 = M) : ∀ (k : Nat) (w : pm_W) (t : Nat) (i2 : Int32), FM [] [a + 6, a + 7] w0 w → (gI w a 2).toInt = N → i2.toInt = t → t ≤ N → sAg w a = flS (cM M) t (sAg w0 a) → PS X k 90 12 [.ref a, .int i2] [] w r w' → r = some (.int 1) ∧ FM [] [a + 6, a + 7] w0 w' ∧ sAg w' a = flS (cM M) N (sAg w0 a) := by
  intro k
  induction k with
  | zero => intro w t i2 f0 g2 h2 ht hs h; exact (PS_0 h).elim
  | succ k ih =>
    intro w t i2 f0 g2 h2 ht hs h
    have hS := f0.2.2.2
    have h := U90_12 hS h
    by_cases c : gI w a 2 ≤ i2
    · rw [if_pos c] at h
      rw [Int32.le_iff_toInt_le, g2, h2] at c
      obtain ⟨h1, h2'⟩ := h
      subst w'
      have et : t = N := by omega
      rw [et] at hs
      exact ⟨h1, f0, hs⟩
    · rw [if_neg c] at h
      rw [Int32.le_iff_toInt_le, g2, h2] at c
      have hWt : WS P N (sAg w a) := by rw [hs]; exact WS_flS hP hW t ht
      have h := use_p hS h (fun _ _ z => F83 hS ok h2 (by omega) z)
      have i21 : (i2 + 1).toInt = (t + 1 : Nat) := by rw [zi_inc (n := 37) (by omega) (by omega), h2]; rfl
      have eg : cM M (gAr w a) t = cM M (flS (cM M) t (sAg w0 a)).2 t := by rw [← hs]; rfl
      have e1 : flS (cM M) (t + 1) (sAg w0 a) = cond (cM M (gAr w a) t) (strk t (flS (cM M) t (sAg w0 a))) (flS (cM M) t (sAg w0 a)) := by rw [eg]; rfl
      have ec : cM M (gAr w a) t = (opn (gAr w a) t && decide ((gAr w a (10 * t + 2)).toInt < M.toInt)) := rfl
      cases ho : opn (gAr w a) t with
      | false =>
        rw [ho] at ec
        rw [ec] at e1
        rw [ho, if_pos (by decide +kernel)] at h
        exact ih w (t + 1) (i2 + 1) f0 g2 i21 (by omega) (hs.trans e1.symm) h
      | true =>
        rw [ho, Bool.true_and] at ec
        rw [ho, if_neg (by decide +kernel)] at h
        have h := use_p hS h (fun _ _ z => F84 (j := 2) hS ok h2 two32 (by omega) (by decide) z)
        have gm : gI w a 1 = M := by rw [FM_i f0 (by intro z; cases z)]; exact hM0
        rw [gm] at h
        by_cases c2 : M ≤ gAr w a (10 * t + 2)
        · rw [if_pos c2] at h
          rw [Int32.le_iff_toInt_le] at c2
          rw [ec, decide_eq_false (by omega)] at e1
          exact ih w (t + 1) (i2 + 1) f0 g2 i21 (by omega) (hs.trans e1.symm) h
        · rw [if_neg c2] at h
          rw [Int32.le_iff_toInt_le] at c2
          rw [ec, decide_eq_true (by omega)] at e1
          obtain ⟨r4, w5, q1, q2⟩ := h
          obtain ⟨a1, a2, a3⟩ := F85s hS ok hP h2 (by omega) (by omega) hWt q1
          refine ih w5 (t + 1) (i2 + 1) (FM_trans f0 a2) (by rw [FM_i a2 (by intro z; cases z)]; exact g2) i21 (by omega) ?_ (q2 a1 a2.2.2.2)
          rw [a3, hs]
          exact e1.symm
/-- a month goes by -/
theorem F90 (hS : SK w) (ok : okS a = true) (hP : P ≤ 9) (hN : N ≤ 37) (hW : WS P N (sAg w a)) (hN0 : (gI w a 2).toInt = N) (h : PS X k 90 0 [.ref a, pm_dead] [] w r w') : r = some (.int 1) ∧ FM [(a, 1)] [a + 6, a + 7] w w' ∧ gI w' a 1 = gI w a 1 + 1 ∧ sAg w' a = flS (cM (gI w a 1 + 1)) N (sAg w a) := by
  cases k with
  | zero => exact (PS_0 h).elim
  | succ k =>
    have h := U90_0 hS h _ rfl
    obtain ⟨_, _, _, i1, i2, _⟩ := okS_r hS ok
    obtain ⟨w1, e1⟩ : ∃ w1, w1 = sI w a 1 (gI w a 1 + 1) := ⟨_, rfl⟩
    rw [← e1] at h
    have f1 : FM [(a, 1)] [] w w1 := by rw [e1]; exact FM_sI hS (by simp)
    have g1 : gI w1 a 1 = gI w a 1 + 1 := by rw [e1, gI_sI i1]
    have s1 : sAg w1 a = sAg w a := by
      unfold sAg dA gAr
      rw [e1, gA_sI, gA_sI]
    obtain ⟨z1, z2, z3⟩ := F90_12 (w0 := w1) ok hP hN (by rw [s1]; exact hW) g1 _ w1 0 0 (FM_refl f1.2.2.2) (by rw [FM_i f1 (by simp)]; exact hN0) z32 (Nat.zero_le _) rfl h
    refine ⟨z1, FM_trans (FM_mono f1 (by simp) (by intro x hx; cases hx)) (FM_mono z2 (by intro x hx; cases hx) (by simp)), ?_, ?_⟩
    · rw [FM_i z2 (by intro z; cases z)]; exact g1
    · rw [z3, s1]
/-! the reference -/
def sR2 (w : pm_W) : (Nat → Int32) × (Nat → Int32) := (dR w, gRr w)
theorem F237s (hS : SK w) (hP : P ≤ 9) (hk : p1.toInt = K) (hK : K ≤ 38) (hKN : K < N) (hW : WS P N (sR2 w)) (h : PS X k 237 0 [.ref 147, .int p1, pm_dead, pm_dead] [] w r w') : r = none ∧ FM [] [152, 153] w w' ∧ sR2 w' = strk K (sR2 w) := by
  obtain ⟨z1, z2, z3, z4⟩ := F237 hS hP hk hK (hW.2 K hKN) hW.1 h
  refine ⟨z1, z2, ?_⟩
  unfold sR2 strk
  rw [z3, z4]
theorem F239_5 (hS : SK w) (hP : P ≤ 9) (hk : p1.toInt = K) (hK : K ≤ 38) (hR : WRg P (gRr w) K) (hm : p2.toInt = m) : ∀ (k t : Nat) (i3 i4 : Int32), i3 = b2i (inR (gRr w) K m t) → i4.toInt = t → t ≤ rMy (gRr w) K → PS X k 239 5 [.ref 147, .int p1, .int p2, .int i3, .int i4] [] w r w' → r = some (.int (b2i (inR (gRr w) K m (rMy (gRr w) K)))) ∧ w' = w := by
  intro k
  have m6 : rMy (gRr w) K ≤ 6 := by have := hR.2.1; unfold rMy; omega
  have hmm : (gRr w (10 * K)).toInt = (rMy (gRr w) K : Nat) := by have := hR.1; unfold rMy; omega
  induction k with
  | zero => intro t i3 i4 h3 h4 ht h; exact (PS_0 h).elim
  | succ k ih =>
    intro t i3 i4 h3 h4 ht h
    obtain ⟨_, h⟩ := U239_5 hS h
    have em : aG w 153 (10 * p1) = gRr w (10 * K) := aG_n (m := 10 * K) (rk10 hk hK)
    rw [em] at h
    by_cases c : gRr w (10 * K) ≤ i4
    · rw [if_pos c] at h
      rw [Int32.le_iff_toInt_le, hmm, h4] at c
      have et : t = rMy (gRr w) K := by omega
      rw [h3, et] at h
      exact h
    · rw [if_neg c] at h
      rw [Int32.le_iff_toInt_le, hmm, h4] at c
      have i41 : (i4 + 1).toInt = (t + 1 : Nat) := by rw [zi_inc (n := 37) (by omega) (by omega), h4]; rfl
      have en : inR (gRr w) K m (t + 1) = (inR (gRr w) K m t || decide (rWho (gRr w) K t = m)) := rfl
      cases hi : inR (gRr w) K m t with
      | true =>
        rw [h3, hi, if_neg (by decide +kernel)] at h
        rw [hi, Bool.true_or] at en
        exact ih (t + 1) 1 (i4 + 1) (by rw [en]; rfl) i41 (by omega) h
      | false =>
        rw [h3, hi, if_pos (by decide +kernel)] at h
        rw [hi, Bool.false_or] at en
        have h := use_p hS h (fun _ _ z => F234 (j := t) hS hk h4 hK (by omega) z)
        have who : (gRr w (10 * K + 4 + t)).toInt = (rWho (gRr w) K t : Nat) := by
          have z := hR.2.2.2.2.2.2.2.1 t (by omega)
          unfold rWho
          omega
        by_cases c2 : gRr w (10 * K + 4 + t) = p2
        · rw [if_pos c2] at h
          have e : rWho (gRr w) K t = m := by
            have z := congrArg Int32.toInt c2
            rw [who, hm] at z
            omega
          exact ih (t + 1) 1 (i4 + 1) (by rw [en, decide_eq_true e]; rfl) i41 (by omega) h
        · rw [if_neg c2] at h
          have e : rWho (gRr w) K t ≠ m := fun z => c2 (Int32.toInt_inj.mp (by rw [who, hm, z]))
          exact ih (t + 1) 0 (i4 + 1) (by rw [en, decide_eq_false e]; rfl) i41 (by omega) h
theorem F239 (hS : SK w) (hP : P ≤ 9) (hk : p1.toInt = K) (hK : K ≤ 38) (hR : WRg P (gRr w) K) (hm : p2.toInt = m) (h : PS X k 239 0 [.ref 147, .int p1, .int p2, pm_dead, pm_dead] [] w r w') : r = some (.int (b2i (inR (gRr w) K m (rMy (gRr w) K)))) ∧ w' = w := by
  cases k with
  | zero => exact (PS_0 h).elim
  | succ k => exact F239_5 hS hP hk hK hR hm _ 0 0 0 rfl z32 (Nat.zero_le _) (U239_0 hS h)
theorem F238_2 (hP : P ≤ 9) (hN : N ≤ 37) (hW : WS P N (sR2 w0)) (hm : p1.toInt = m) : ∀ (k : Nat) (w : pm_W) (t : Nat) (i2 : Int32), FM [] [152, 153] w0 w → (gI w 147 14).toInt = N → i2.toInt = t → t ≤ N → sR2 w = flS (cF m) t (sR2 w0) → PS X k 238 2 [.ref 147, .int p1, .int i2] [] w r w' → ∃ (w1 : pm_W) (k' : Nat), FM [] [152, 153] w0 w1 ∧ sR2 w1 = flS (cF m) N (sR2 w0) ∧ PS X k' 238 40 [.ref 147, .int p1, .int 0] [] w1 r w' := by
  intro k
  induction k with
  | zero => intro w t i2 f0 g2 h2 ht hs h; exact (PS_0 h).elim
  | succ k ih =>
    intro w t i2 f0 g2 h2 ht hs h
    have hS := f0.2.2.2
    have h := U238_2 hS h
    by_cases c : gI w 147 14 ≤ i2
    · rw [if_pos c] at h
      rw [Int32.le_iff_toInt_le, g2, h2] at c
      have et : t = N := by omega
      rw [et] at hs
      exact ⟨w, k, f0, hs, h⟩
    · rw [if_neg c] at h
      rw [Int32.le_iff_toInt_le, g2, h2] at c
      have hWt : WS P N (sR2 w) := by rw [hs]; exact WS_flS hP hW t ht
      have h := use_p hS h (fun _ _ z => F236 hS h2 (by omega) z)
      have i21 : (i2 + 1).toInt = (t + 1 : Nat) := by rw [zi_inc (n := 37) (by omega) (by omega), h2]; rfl
      have eg : cF m (gRr w) t = cF m (flS (cF m) t (sR2 w0)).2 t := by rw [← hs]; rfl
      have e1 : flS (cF m) (t + 1) (sR2 w0) = cond (cF m (gRr w) t) (strk t (flS (cF m) t (sR2 w0))) (flS (cF m) t (sR2 w0)) := by rw [eg]; rfl
      have ec : cF m (gRr w) t = (opn (gRr w) t && inR (gRr w) t m (rMy (gRr w) t)) := rfl
      cases ho : opn (gRr w) t with
      | false =>
        rw [ho] at ec
        rw [ec] at e1
        rw [ho, if_pos (by decide +kernel)] at h
        exact ih w (t + 1) (i2 + 1) f0 g2 i21 (by omega) (hs.trans e1.symm) h
      | true =>
        rw [ho, Bool.true_and] at ec
        rw [ho, if_neg (by decide +kernel)] at h
        have h := use_p hS h (fun _ _ z => F239 hS hP h2 (by omega) (hWt.2 t (by omega)) hm z)
        cases hi : inR (gRr w) t m (rMy (gRr w) t) with
        | false =>
          rw [hi] at ec
          rw [ec] at e1
          rw [hi, if_pos (by decide +kernel)] at h
          exact ih w (t + 1) (i2 + 1) f0 g2 i21 (by omega) (hs.trans e1.symm) h
        | true =>
          rw [hi] at ec
          rw [ec] at e1
          rw [hi, if_neg (by decide +kernel)] at h
          obtain ⟨r4, w5, q1, q2⟩ := h
          obtain ⟨a1, a2, a3⟩ := F237s hS hP h2 (by omega) (by omega) hWt q1
          refine ih w5 (t + 1) (i2 + 1) (FM_trans f0 a2) (by rw [FM_i a2 (by intro z; cases z)]; exact g2) i21 (by omega) ?_ (q2 a1 a2.2.2.2)
          rw [a3, hs]
          exact e1.symm
theorem F238_40 (hm : p1.toInt = m) (hm9 : m < 9) : ∀ (k : Nat) (w : pm_W) (t : Nat) (i2 : Int32), FM [] [152, 153] w0 w → i2.toInt = t → t ≤ 9 → dR w = zrL m t (dR w0) → gRr w = gRr w0 → PS X k 238 40 [.ref 147, .int p1, .int i2] [] w r w' → r = none ∧ FM [] [152, 153] w0 w' ∧ dR w' = zrL m 9 (dR w0) ∧ gRr w' = gRr w0 := by
  intro k
  induction k with
  | zero => intro w t i2 f0 h2 ht hd hg h; exact (PS_0 h).elim
  | succ k ih =>
    intro w t i2 f0 h2 ht hd hg h
    have hS := f0.2.2.2
    have h := U238_40 hS h
    by_cases c : 9 ≤ i2
    · rw [if_pos c] at h
      rw [Int32.le_iff_toInt_le, nine32, h2] at c
      obtain ⟨h1, h2'⟩ := h
      subst w'
      have et : t = 9 := by omega
      rw [et] at hd
      exact ⟨h1, f0, hd, hg⟩
    · rw [if_neg c] at h
      rw [Int32.le_iff_toInt_le, nine32, h2] at c
      obtain ⟨_, h⟩ := h
      obtain ⟨_, h⟩ := h _ rfl
      have h := h _ rfl
      have c1 : (9 * p1 + i2).toInt = (9 * m + t : Nat) := by rw [zi_add (zi_mul nine32 hm (by omega) (by omega)) h2 (by omega) (by omega)]; omega
      have c2 : (9 * i2 + p1).toInt = (9 * t + m : Nat) := by rw [zi_add (zi_mul nine32 h2 (by omega) (by omega)) hm (by omega) (by omega)]; omega
      have f4 : FM [] [152, 153] w (aS w 152 (9 * p1 + i2) 0) := FM_aS hS (by decide)
      have f8 : FM [] [152, 153] (aS w 152 (9 * p1 + i2) 0) (aS (aS w 152 (9 * p1 + i2) 0) 152 (9 * i2 + p1) 0) := FM_aS f4.2.2.2 (by decide)
      refine ih _ (t + 1) (i2 + 1) (FM_trans f0 (FM_trans f4 f8)) (by rw [zi_inc (n := 37) (by omega) (by omega), h2]; rfl) (by omega) ?_ ?_ h
      · rw [dR_aS f4.2.2.2 c2 (by omega), dR_aS hS c1 (by omega), hd]
        rfl
      · rw [gRr_ne (by decide), gRr_ne (by decide)]
        exact hg
theorem F238 (hS : SK w) (hP : P ≤ 9) (hN : N ≤ 37) (hW : WS P N (sR2 w)) (hN0 : (gI w 147 14).toInt = N) (hm : p1.toInt = m) (hm9 : m < 9) (h : PS X k 238 0 [.ref 147, .int p1, pm_dead] [] w r w') : r = none ∧ FM [] [152, 153] w w' ∧ dR w' = zrL m 9 (flS (cF m) N (sR2 w)).1 ∧ gRr w' = (flS (cF m) N (sR2 w)).2 := by
  cases k with
  | zero => exact (PS_0 h).elim
  | succ k =>
    obtain ⟨w1, k', a1, a2, h⟩ := F238_2 hP hN hW hm _ w 0 0 (FM_refl hS) hN0 z32 (Nat.zero_le _) rfl (U238_0 hS h)
    obtain ⟨b1, b2, b3, b4⟩ := F238_40 (w0 := w1) hm hm9 _ w1 0 0 (FM_refl a1.2.2.2) z32 (by decide) rfl rfl h
    refine ⟨b1, FM_trans a1 b2, ?_, ?_⟩
    · rw [b3, ← a2]
      rfl
    · rw [b4, ← a2]
      rfl
theorem F240_12 (hP : P ≤ 9) (hN : N ≤ 37) (hW : WS P N (sR2 w0)) (hM0 : gI w0 147 15 = M) : ∀ (k : Nat) (w : pm_W) (t : Nat) (i2 : Int32), FM [] [152, 153] w0 w → (gI w 147 14).toInt = N → i2.toInt = t → t ≤ N → sR2 w = flS (cM M) t (sR2 w0) → PS X k 240 12 [.ref 147, .int i2] [] w r w' → r = none ∧ FM [] [152, 153] w0 w' ∧ sR2 w' = flS (cM M) N (sR2 w0) := by
  intro k
  induction k with
  | zero => intro w t i2 f0 g2 h2 ht hs h; exact (PS_0 h).elim
  | succ k ih =>
    intro w t i2 f0 g2 h2 ht hs h
    have hS := f0.2.2.2
    have h := U240_12 hS h
    by_cases c : gI w 147 14 ≤ i2
    · rw [if_pos c] at h
      rw [Int32.le_iff_toInt_le, g2, h2] at c
      obtain ⟨h1, h2'⟩ := h
      subst w'
      have et : t = N := by omega
      rw [et] at hs
      exact ⟨h1, f0, hs⟩
    · rw [if_neg c] at h
      rw [Int32.le_iff_toInt_le, g2, h2] at c
      have hWt : WS P N (sR2 w) := by rw [hs]; exact WS_flS hP hW t ht
      have h := use_p hS h (fun _ _ z => F236 hS h2 (by omega) z)
      have i21 : (i2 + 1).toInt = (t + 1 : Nat) := by rw [zi_inc (n := 37) (by omega) (by omega), h2]; rfl
      have eg : cM M (gRr w) t = cM M (flS (cM M) t (sR2 w0)).2 t := by rw [← hs]; rfl
      have e1 : flS (cM M) (t + 1) (sR2 w0) = cond (cM M (gRr w) t) (strk t (flS (cM M) t (sR2 w0))) (flS (cM M) t (sR2 w0)) := by rw [eg]; rfl
      have ec : cM M (gRr w) t = (opn (gRr w) t && decide ((gRr w (10 * t + 2)).toInt < M.toInt)) := rfl
      cases ho : opn (gRr w) t with
      | false =>
        rw [ho] at ec
        rw [ec] at e1
        rw [ho, if_pos (by decide +kernel)] at h
        exact ih w (t + 1) (i2 + 1) f0 g2 i21 (by omega) (hs.trans e1.symm) h
      | true =>
        rw [ho, Bool.true_and] at ec
        rw [ho, if_neg (by decide +kernel)] at h
        have gm : gI w 147 15 = M := by rw [FM_i f0 (by intro z; cases z)]; exact hM0
        obtain ⟨_, h⟩ := h
        have et : aG w 153 (10 * i2 + 2) = gRr w (10 * t + 2) := aG_n (m := 10 * t + 2) (by rw [zi_add (rk10 h2 (by omega)) two32 (by omega) (by omega)]; rfl)
        rw [gm, et] at h
        by_cases c2 : M ≤ gRr w (10 * t + 2)
        · rw [if_pos c2] at h
          rw [Int32.le_iff_toInt_le] at c2
          rw [ec, decide_eq_false (by omega)] at e1
          exact ih w (t + 1) (i2 + 1) f0 g2 i21 (by omega) (hs.trans e1.symm) h
        · rw [if_neg c2] at h
          rw [Int32.le_iff_toInt_le] at c2
          rw [ec, decide_eq_true (by omega)] at e1
          obtain ⟨r4, w5, q1, q2⟩ := h
          obtain ⟨a1, a2, a3⟩ := F237s hS hP h2 (by omega) (by omega) hWt q1
          refine ih w5 (t + 1) (i2 + 1) (FM_trans f0 a2) (by rw [FM_i a2 (by intro z; cases z)]; exact g2) i21 (by omega) ?_ (q2 a1 a2.2.2.2)
          rw [a3, hs]
          exact e1.symm
theorem F240 (hS : SK w) (hP : P ≤ 9) (hN : N ≤ 37) (hW : WS P N (sR2 w)) (hN0 : (gI w 147 14).toInt = N) (h : PS X k 240 0 [.ref 147, pm_dead] [] w r w') : r = none ∧ FM [(147, 15)] [152, 153] w w' ∧ gI w' 147 15 = gI w 147 15 + 1 ∧ sR2 w' = flS (cM (gI w 147 15 + 1)) N (sR2 w) := by
  cases k with
  | zero => exact (PS_0 h).elim
  | succ k =>
    have h := U240_0 hS h _ rfl
    obtain ⟨w1, e1⟩ : ∃ w1, w1 = sI w 147 15 (gI w 147 15 + 1) := ⟨_, rfl⟩
    rw [← e1] at h
    have f1 : FM [(147, 15)] [] w w1 := by rw [e1]; exact FM_sI hS (by decide)
    have g1 : gI w1 147 15 = gI w 147 15 + 1 := by rw [e1, gI_sI (SK_isF hS (by decide +kernel))]
    have s1 : sR2 w1 = sR2 w := by
      unfold sR2 dR gRr
      rw [e1, gA_sI, gA_sI]
    obtain ⟨z1, z2, z3⟩ := F240_12 (w0 := w1) hP hN (by rw [s1]; exact hW) g1 _ w1 0 0 (FM_refl f1.2.2.2) (by rw [FM_i f1 (by decide)]; exact hN0) z32 (Nat.zero_le _) rfl h
    refine ⟨z1, FM_trans (FM_mono f1 (by decide) (by intro x hx; cases hx)) (FM_mono z2 (by intro x hx; cases hx) (by decide)), ?_, ?_⟩
    · rw [FM_i z2 (by intro z; cases z)]; exact g1
    · rw [z3, s1]
end GY
