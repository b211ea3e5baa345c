/-! ===== rest, asked on both sides ===== -/
section JRA
variable {X : pm_X} {k k2 : Nat} {w0 w w1 w2 w3 w4 w5 w6 w8 wj w' : pm_W} {r r2 q0 q1 q2 : Option Value} {p1 p2 p3 p4 p5 p6 i1 i2 i3 i4 i5 i6 i7 i8 i9 z z1 z2 so x : Int32} {i v j m c m' c' u P t s b d p q fx Q I J K T W N κ bm n : Nat} {l l6 l10 : Int64} {e g y : Int} {fe fe' rk : Nat → Int} {E : Nat → Nat} {u7 u9 u10 u12 : Value} {V : Nat → Nat → Prop} {R G : Nat → Nat → Int} {a : Nat → Int32} {s1 t1 t2 : SN}
theorem BSt_ex (hN : 0 < N) (hb : ∀ m c, V m c → c < N) (hm : ∀ m c, V m c → m ≤ 6) (h : ∃ m c, V m c) : ∃ m c, BSt G V m c := by
  have step : ∀ n : Nat, (∀ m c, ¬ (V m c ∧ m * N + c < n)) ∨ ∃ m c, BSt G (fun m c => V m c ∧ m * N + c < n) m c := by
    intro n
    induction n with
    | zero => exact Or.inl (fun m c q => absurd q.2 (Nat.not_lt_zero _))
    | succ n ih =>
      have cd : n / N * N + n % N = n := by rw [Nat.mul_comm]; exact Nat.div_add_mod n N
      have uq : ∀ m c, V m c → m * N + c = n → m = n / N ∧ c = n % N := by
        intro m c hv e
        have hc := hb m c hv
        constructor
        · rw [← e, Nat.mul_comm, Nat.mul_add_div hN, Nat.div_eq_of_lt hc]; rfl
        · rw [← e, Nat.mul_comm, Nat.mul_add_mod, Nat.mod_eq_of_lt hc]
      by_cases hv : V (n / N) (n % N)
      · have ev : ∀ m c, ((V m c ∧ m * N + c < n) ∨ (m = n / N ∧ c = n % N)) ↔ (V m c ∧ m * N + c < n + 1) := by
          intro m c
          constructor
          · rintro (⟨q1, q2⟩ | ⟨q1, q2⟩)
            · exact ⟨q1, by omega⟩
            · rw [q1, q2]; exact ⟨hv, by omega⟩
          · rintro ⟨q1, q2⟩
            by_cases e : m * N + c = n
            · exact Or.inr (uq m c q1 e)
            · exact Or.inl ⟨q1, by omega⟩
        refine Or.inr ?_
        rcases ih with h0 | ⟨m, c, h0⟩
        · exact ⟨_, _, BSt_cg ev (BSt_1 h0)⟩
        · have ne : ¬ (m = n / N ∧ c = n % N) := fun q => by
            have := h0.1.2
            rw [q.1, q.2] at this
            omega
          have tot : BTt G m c (n / N) (n % N) ∨ BTt G (n / N) (n % N) m c := by
            unfold BTt
            omega
          rcases tot with t | t
          · exact ⟨_, _, BSt_cg ev (BSt_o h0 t)⟩
          · exact ⟨_, _, BSt_cg ev (BSt_n h0 t)⟩
      · have ev : ∀ m c, (V m c ∧ m * N + c < n) ↔ (V m c ∧ m * N + c < n + 1) := by
          intro m c
          constructor
          · rintro ⟨q1, q2⟩
            exact ⟨q1, by omega⟩
          · rintro ⟨q1, q2⟩
            refine ⟨q1, ?_⟩
            by_cases e : m * N + c = n
            · obtain ⟨e1, e2⟩ := uq m c q1 e
              rw [e1, e2] at q1
              exact absurd q1 hv
            · omega
        rcases ih with h0 | ⟨m, c, h0⟩
        · exact Or.inl (fun m c q => h0 m c ((ev m c).mpr q))
        · exact Or.inr ⟨m, c, BSt_cg ev h0⟩
  obtain ⟨m0, c0, h0⟩ := h
  have hall : ∀ m c, V m c → m * N + c < 7 * N := fun m c hv => by
    have h1 := hm m c hv
    have h2 := hb m c hv
    have : m * N ≤ 6 * N := Nat.mul_le_mul_right N h1
    omega
  rcases step (7 * N) with q | ⟨m, c, q⟩
  · exact absurd ⟨h0, hall m0 c0 h0⟩ (q m0 c0)
  · exact ⟨m, c, BSt_cg (fun m c => ⟨fun q => q.1, fun q => ⟨q, hall m c q⟩⟩) q⟩
theorem VRg_ex {a b : Nat} (h : ∃ m c, VRg R P y a b m c) : ∃ m c, BSt G (VRg R P y a b) m c := BSt_ex (N := 6561) (by decide) (fun m c q => by
    have h1 := q.2.2.1
    have h2 : 9 ^ (m - 2) ≤ 9 ^ 4 := Nat.pow_le_pow_right (by decide) (by have := q.2.1; omega)
    have : (9 : Nat) ^ 4 = 6561 := by decide
    omega) (fun m c q => q.2.1) h
/-- the reference: from 99 down -/
theorem F273_l {a b : Nat} (hS0 : SK w0) (hV : VAa (al w0)) (hu : u < (al w0 0).toInt.toNat) (u1 : u ≤ 1) (h1 : i1.toInt = u) (hκ : i4.toInt = κ) (hκ7 : κ < Wof (al w0) u) (hp : i5.toInt = p) (hpP : p < Pof (al w0) u) (ha : a = wAf (al w0) u κ) (hb : b = wBf (al w0) u κ) (hVV : V = VRg (rmA w0 u) (Pof (al w0) u) (wNf (al w0) u κ) a b) : ∀ k : Nat,
    (∀ (w : pm_W) (i6 : Int32) (u7 : Value), FM rrF [158, 159] w0 w → -1 ≤ i6.toInt → i6.toInt < 100 → (∀ f : Int, i6.toInt < f → f < 100 → ¬ InB V (feF (al w0) u) (rkF (al w0) u) a b p f) → PS X k 273 32 [.ref 147, .int i1, .int i2, .int i3, .int i4, .int i5, .int i6, u7] [] w r w' → ∃ z : Int32, r = some (.int z) ∧ GWt (InB V (feF (al w0) u) (rkF (al w0) u) a b p) z.toInt) ∧
    (∀ (w : pm_W) (m c t : Nat) (i6 i7 : Int32), FM rrF [158, 159] w0 w → 0 ≤ i6.toInt → i6.toInt < 100 → (∀ f : Int, i6.toInt < f → f < 100 → ¬ InB V (feF (al w0) u) (rkF (al w0) u) a b p f) → BSt (GR 1 (feP (feF (al w0) u) p i6.toInt) (rkF (al w0) u) a b) V m c → m ≤ 6 → (gI w 147 23).toInt = m → (∀ i, i < m → ((gA w 159).getD i 0).toInt = elN a b m c i) → i7.toInt = t → t ≤ m → (∀ i, i < t → elN a b m c i ≠ p) → PS X k 273 61 [.ref 147, .int i1, .int i2, .int i3, .int i4, .int i5, .int i6, .int i7] [] w r w' → ∃ z : Int32, r = some (.int z) ∧ GWt (InB V (feF (al w0) u) (rkF (al w0) u) a b p) z.toInt) := by
  obtain ⟨v1, v1', v3, v2, v4⟩ := VA_v hV hu
  obtain ⟨fb, rb⟩ := VA_f hV hu
  intro k
  induction k with
  | zero => exact ⟨fun _ _ _ _ _ _ _ h => (PS_0 h).elim, fun _ _ _ _ _ _ _ _ _ _ _ _ _ _ _ _ _ h => (PS_0 h).elim⟩
  | succ k ih =>
    obtain ⟨ih32, ih61⟩ := ih
    refine ⟨fun w i6 u7 fm b0 b1 hno h => ?_, fun w m c t i6 i7 fm b0 b1 hno hB hm6 hm hE h7 ht hn h => ?_⟩
    · have hS : SK w := fm.2.2.2
      have ea : al w = al w0 := al_FM fm (by decide)
      have h := U273_32 hS h
      by_cases c0 : i6 < 0
      · rw [if_pos c0] at h
        rw [Int32.lt_iff_toInt_lt, z32] at c0
        exact ⟨_, h.1, Or.inl ⟨m1i, fun f f0 f1 => hno f (by omega) f1⟩⟩
      · rw [if_neg c0] at h
        rw [Int32.lt_iff_toInt_lt, z32] at c0
        have h := use_p hS h (fun _ _ y => F217v hS h1 u1 y)
        obtain ⟨q4, w5, y5, h⟩ := h
        obtain ⟨f5, hr, hres⟩ := F266 (fe := feP (feF (al w0) u) p i6.toInt) hS (by rw [ea]; exact hV) (by rw [ea]; exact hu) u1 (plV h1 u1) hκ (by rw [ea]; exact hκ7) (Or.inr (Or.inl rfl)) (fun x _ => by
          unfold feP
          by_cases e : x = p
          · rw [if_pos e, if_pos (by rw [e, hp])]
          · rw [if_neg e, if_neg (by rw [hp]; omega), ea]; rfl) (fun x hx => by
          rw [ea] at hx
          unfold feP
          split
          · omega
          · have := fb x (by omega); omega) y5
        rw [ea, rmA_fm fm (by decide) (by decide), ← ha, ← hb, ← hVV] at hr
        have S5 := f5.2.2.2
        have fm5 := FM_trans fm f5
        rcases hr with ⟨n1, n2⟩ | ⟨m, c, n1, n2, n3, n4⟩
        · have rq : q4 = some (.int 0) := by
            rcases hres with ⟨_, g⟩ | ⟨g, _⟩
            · exact g
            · omega
          have h := h _ rq S5
          rw [if_pos rfl] at h
          exact ⟨_, h.1, Or.inl ⟨m1i, fun f _ _ ⟨m, c, g, _⟩ => n2 m c g.1⟩⟩
        · have rq : q4 = some (.int 1) := by
            rcases hres with ⟨g, _⟩ | ⟨_, g⟩
            · omega
            · exact g
          have h := h _ rq S5
          rw [if_neg (by decide +kernel)] at h
          exact ih61 w5 m c 0 i6 0 fm5 (by omega) b1 hno n1 n2.2 n3 (fun i hi => (n4 i hi).1) z32 (Nat.zero_le _) (fun i hi => absurd hi (Nat.not_lt_zero i)) h
    · have hS : SK w := fm.2.2.2
      have h := U273_61 hS h
      by_cases c1 : gI w 147 23 ≤ i7
      · rw [if_pos c1] at h
        rw [Int32.le_iff_toInt_le, hm, h7] at c1
        obtain ⟨e, he⟩ : ∃ e : Int, e = i6.toInt := ⟨_, rfl⟩
        have ad : ∀ x : Int32, x.toInt = -1 → (i6 + x).toInt = e - 1 := fun x hx => by rw [zi_add he.symm hx (by omega) (by omega)]; omega
        have k1 : ∀ z : Int, z = e - 1 → -1 ≤ z := fun z hz => by omega
        have k2 : ∀ z : Int, z = e - 1 → z < 100 := fun z hz => by omega
        have k3 : ∀ z f : Int, z = e - 1 → z < f → f ≠ i6.toInt → i6.toInt < f := fun z f hz h1 h2 => by omega
        refine ih32 w _ _ fm (k1 _ (ad (-1) m1i)) (k2 _ (ad (-1) m1i)) (fun f f0 f1 => ?_) h
        · by_cases e : f = i6.toInt
          · rw [e]
            rintro ⟨m', c', g, i, hi, q⟩
            obtain ⟨e1, e2⟩ := BSt_uq hB g
            rw [← e1, ← e2] at q
            rw [← e1] at hi
            have hi' : i < t := by
              clear f0
              omega
            exact hn i hi' q
          · exact hno f (k3 _ f (ad (-1) m1i) f0 e) f1
      · rw [if_neg c1] at h
        rw [Int32.le_iff_toInt_le, hm, h7] at c1
        obtain ⟨_, h⟩ := h
        have ev : (aG w 159 i7).toInt = elN a b m c t := by rw [aG_n h7]; exact hE t (by omega)
        by_cases c2 : aG w 159 i7 = i5
        · rw [if_pos c2] at h
          rw [c2, hp] at ev
          exact ⟨i6, h.1, Or.inr ⟨b0, b1, ⟨m, c, hB, t, by omega, by omega⟩, hno⟩⟩
        · rw [if_neg c2] at h
          refine ih61 w m c (t + 1) i6 _ fm b0 b1 hno hB hm6 hm hE (by rw [zi_inc (n := 40) (by omega) (by omega), h7]; rfl) (by omega) (fun i hi => ?_) h
          by_cases e : i = t
          · rw [e]
            exact fun q => c2 (Int32.toInt_inj.mp (by rw [ev, hp, q]))
          · exact hn i (by omega)
end JRA
