/-! ===== one by one: the reference ===== -/
section JXA
variable {X : pm_X} {k k2 : Nat} {w0 w w1 w2 w3 w4 w5 wj w' : pm_W} {r r2 q0 q1 q2 : Option Value} {p1 p2 p3 p4 p5 p i1 i2 i3 i4 i5 i6 i7 i8 z z1 z2 so x n : Int32} {i v j m c u P t s b d q κ N s' : Nat} {y : Int} {E E' : Nat → Nat} {a D D' D0 e e' fee F : Nat → Int32} {fs : List (Nat × Nat)} {as : List Nat} {u4 u5 u6 : Value}
def eaR (w : pm_W) (q : Nat) : Int32 := (gA w 166).getD q 0
theorem l166 (hS : SK w) : (gA w 166).length = 9 := SK_len hS (a := 166) (n := 9) (by decide +kernel) (by decide)
theorem eaR_s (hS : SK w) (hx : i1.toInt = d) (hd : d < 9) : eaR (aS w 166 i1 x) = updc (eaR w) d x := by
  funext q
  unfold eaR updc
  rw [gA_aS (SK_isA hS (by decide +kernel)), i_nat hx, getD_set (by rw [l166 hS]; exact hd)]
theorem updc_self : updc e d (e d) = e := by
  funext q
  unfold updc
  by_cases h : q = d
  · rw [if_pos h, h]
  · rw [if_neg h]
theorem F305_79 (hp : i1.toInt = (610 + 132 * u : Nat)) (hu : u ≤ 1) (hm : 2 ≤ m ∧ m ≤ 6) (h23 : (gI w0 147 23).toInt = m) (hE : ∀ i, i < m → ((gA w0 159).getD i 0).toInt = E i ∧ E i < 9) (hA : al w0 = a) : ∀ (k t : Nat) (w : pm_W) (i5 : Int32), FM [] [152, 166] w0 w → i5.toInt = t → t ≤ m → dR w = adD (obE E) m i4 t D → eaR w = eaU (fun p => a (694 + 132 * u + p)) i4 E e t → PS X k 305 79 [.ref 147, .int i1, .int i2, .int i3, .int i4, .int i5] [] w r w' → ∃ (k' : Nat) (w9 : pm_W) (v5 : Value), k' < k ∧ FM [] [152, 166] w0 w9 ∧ dR w9 = adD (obE E) m i4 m D ∧ eaR w9 = eaU (fun p => a (694 + 132 * u + p)) i4 E e m ∧ PS X k' 305 28 [.ref 147, .int i1, .int i2, .int (i3 + 1), .int i4, v5] [] w9 r w' := by
  have e84 : (84 : Int32).toInt = 84 := by decide +kernel
  intro k
  induction k with
  | zero => intro t w i5 _ _ _ _ _ h; exact (PS_0 h).elim
  | succ k ih =>
    intro t w i5 fm h5 ht hd he h
    have hS : SK w := fm.2.2.2
    have h := U305_79 hS h
    have g23 : (gI w 147 23).toInt = m := by rw [FM_i fm (by simp)]; exact h23
    by_cases c1 : gI w 147 23 ≤ i5
    · rw [if_pos c1] at h
      rw [Int32.le_iff_toInt_le, g23, h5] at c1
      have et : t = m := by omega
      rw [et] at hd he
      exact ⟨k, w, _, Nat.lt_succ_self k, fm, hd, he, h⟩
    · rw [if_neg c1] at h
      rw [Int32.le_iff_toInt_le, g23, h5] at c1
      have htm : t < m := by omega
      obtain ⟨_, _, _, _, h⟩ := h
      obtain ⟨_, _, h⟩ := h _ rfl
      obtain ⟨_, et9⟩ := hE t htm
      have e1 : (i5 + 1).toInt = ((t + 1 : Nat) : Int) := by rw [zi_inc (n := 40) (by omega) (by omega), h5]; rfl
      have er : ((i5 + 1) - (i5 + 1) / (gI w 147 23) * (gI w 147 23)).toInt = ((t + 1) % m : Nat) := zi_rem e1 g23
      have tm : (t + 1) % m < m := Nat.mod_lt _ (by omega)
      have g159 : gA w 159 = gA w0 159 := FM_a fm (by decide)
      have v1 : (aG w 159 i5).toInt = E t := by rw [aG_n h5, g159]; exact (hE t htm).1
      have v2 : (aG w 159 ((i5 + 1) - (i5 + 1) / (gI w 147 23) * (gI w 147 23))).toInt = E ((t + 1) % m) := by rw [aG_n er, g159]; exact (hE _ tm).1
      have n9 := (hE _ tm).2
      obtain ⟨ix, hix⟩ : ∃ ix, ix = (9 * (aG w 159 i5)) + (aG w 159 ((i5 + 1) - (i5 + 1) / (gI w 147 23) * (gI w 147 23))) := ⟨_, rfl⟩
      rw [← hix] at h
      have vx : ix.toInt = (9 * E t + E ((t + 1) % m) : Nat) := by rw [hix, zi_add (zi_mul nine32 v1 (by omega) (by omega)) v2 (by omega) (by omega)]; omega
      have ecl : eCl (obE E) m t = 9 * E t + E ((t + 1) % m) := by
        unfold eCl eNx
        rw [obE_w et9]
        by_cases q : t + 1 < m
        · rw [if_pos q, Nat.mod_eq_of_lt q]
          rw [obE_w (hE _ q).2]
        · rw [if_neg q, show t + 1 = m by omega, Nat.mod_self, obE_w (hE 0 (by omega)).2]
      have S1 : SK (aS w 152 ix (aG w 152 ix + i4)) := SK_aS hS
      have f1 : FM [] [152, 166] w (aS w 152 ix (aG w 152 ix + i4)) := FM_aS hS (by decide)
      have hd1 : dR (aS w 152 ix (aG w 152 ix + i4)) = adD (obE E) m i4 (t + 1) D := by
        have g0 : aG w 152 ix = dR w (9 * E t + E ((t + 1) % m)) := aG_n vx
        rw [dR_aS hS vx (by omega), g0, hd]
        show _ = updc (adD (obE E) m i4 t D) (eCl (obE E) m t) (adD (obE E) m i4 t D (eCl (obE E) m t) + i4)
        rw [ecl]
      have he1 : eaR (aS w 152 ix (aG w 152 ix + i4)) = eaR w := by funext q; unfold eaR; rw [gA_aS_ne (by decide)]
      have v3 : (aG (aS w 152 ix (aG w 152 ix + i4)) 159 i5).toInt = E t := by
        rw [aG_n h5, gA_aS_ne (by decide), g159]
        exact (hE t htm).1
      have g166 : aG (aS w 152 ix (aG w 152 ix + i4)) 166 (aG (aS w 152 ix (aG w 152 ix + i4)) 159 i5) = eaU (fun p => a (694 + 132 * u + p)) i4 E e t (E t) := by
        rw [aG_n v3]
        show eaR (aS w 152 ix (aG w 152 ix + i4)) (E t) = _
        rw [he1, he]
      have f12 := FM_trans fm f1
      by_cases c2 : 2 ≤ i5
      · rw [if_pos c2] at h
        rw [Int32.le_iff_toInt_le, two32, h5] at c2
        obtain ⟨_, _, _, h⟩ := h
        have h := h _ rfl
        have g148 : aG (aS w 152 ix (aG w 152 ix + i4)) 148 ((i1 + 84) + (aG (aS w 152 ix (aG w 152 ix + i4)) 159 i5)) = a (694 + 132 * u + E t) := by
          rw [aG_n (m := 694 + 132 * u + E t) (by rw [zi_add (zi_add hp e84 (by omega) (by omega)) v3 (by omega) (by omega)]; omega)]
          show al (aS w 152 ix (aG w 152 ix + i4)) _ = _
          rw [al_FM f12 (by decide), hA]
        obtain ⟨k', w9, v5, a1, a2⟩ := ih (t + 1) _ _ (FM_trans f12 (FM_aS S1 (by decide))) e1 (by omega) (by
          rw [show dR (aS (aS w 152 ix (aG w 152 ix + i4)) 166 (aG (aS w 152 ix (aG w 152 ix + i4)) 159 i5) ((aG (aS w 152 ix (aG w 152 ix + i4)) 166 (aG (aS w 152 ix (aG w 152 ix + i4)) 159 i5)) + (i4 * (aG (aS w 152 ix (aG w 152 ix + i4)) 148 ((i1 + 84) + (aG (aS w 152 ix (aG w 152 ix + i4)) 159 i5)))))) = dR (aS w 152 ix (aG w 152 ix + i4)) from by funext q; unfold dR; rw [gA_aS_ne (by decide)]]
          exact hd1) (by
          rw [eaR_s S1 v3 et9, g166, g148, he1, he, eaU_hi (by omega), Int32.mul_comm]) h
        exact ⟨k', w9, v5, by omega, a2⟩
      · rw [if_neg c2] at h
        rw [Int32.le_iff_toInt_le, two32, h5] at c2
        obtain ⟨_, h⟩ := h
        have h := h _ rfl
        obtain ⟨k', w9, v5, a1, a2⟩ := ih (t + 1) _ _ (FM_trans f12 (FM_aS S1 (by decide))) e1 (by omega) (by
          rw [show dR (aS (aS w 152 ix (aG w 152 ix + i4)) 166 (aG (aS w 152 ix (aG w 152 ix + i4)) 159 i5) ((aG (aS w 152 ix (aG w 152 ix + i4)) 166 (aG (aS w 152 ix (aG w 152 ix + i4)) 159 i5)) + 0)) = dR (aS w 152 ix (aG w 152 ix + i4)) from by funext q; unfold dR; rw [gA_aS_ne (by decide)]]
          exact hd1) (by
          rw [eaR_s S1 v3 et9, g166, he1, he, eaU_lo (by omega), Int32.add_zero, updc_self]) h
        exact ⟨k', w9, v5, by omega, a2⟩
/-- what stands after all wants -/
def OBr (a : Nat → Int32) (u : Nat) (so : Int32) (D0 : Nat → Int32) (w' : pm_W) : Prop := ∃ (D : Nat → Int32) (s : Nat) (e : Nat → Int32), OBn a u so D0 (Wof a u) D s e ∧ (gI w' 147 35).toInt = s ∧ eaR w' = e
abbrev orF : List (Nat × Nat) := [(147, 23), (147, 24), (147, 35)]
abbrev orA : List Nat := [152, 158, 159, 166]
theorem F305_l (hV : VAa a) (hu : u < (a 0).toInt.toNat) (u1 : u ≤ 1) (hp : i1.toInt = (610 + 132 * u : Nat)) (hso : okSo i2) : ∀ (k κ s : Nat) (w : pm_W) (D e : Nat → Int32) (i3 : Int32) (u4 u5 : Value), SK w → al w = a → dR w = D → i3.toInt = κ → κ ≤ Wof a u → OBn a u i2 D0 κ D s e → (gI w 147 35).toInt = s → eaR w = e → PS X k 305 28 [.ref 147, .int i1, .int i2, .int i3, u4, u5] [] w r w' → r = none ∧ FM orF orA w w' ∧ OBr a u i2 D0 w' := by
  obtain ⟨x1, x2, x3⟩ := VA_w hV hu
  obtain ⟨v1, v1', v3, v2, v4⟩ := VA_v hV hu
  obtain ⟨fb, rb⟩ := VA_f hV hu
  intro k
  induction k using Nat.strongRecOn with
  | ind k ih =>
    intro κ s w D e i3 u4 u5 hS hA hd h3 hκ hO hs he h
    cases k with
    | zero => exact (PS_0 h).elim
    | succ k =>
      have sl := OB_s κ D s e hO
      obtain ⟨_, h⟩ := U305_28 hS h
      have eW : (aG w 148 (i1 + 1)).toInt = Wof a u := by
        rw [aG_n (m := 611 + 132 * u) (by rw [zi_add hp o32 (by omega) (by omega)]; omega)]
        show (al w _).toInt = _
        rw [hA, x1]
      by_cases c : aG w 148 (i1 + 1) ≤ i3
      · rw [if_pos c] at h
        rw [Int32.le_iff_toInt_le, eW, h3] at c
        have ek : κ = Wof a u := by omega
        rw [ek] at hO
        rw [h.2]
        exact ⟨h.1, FM_refl hS, D, s, e, hO, hs, he⟩
      · rw [if_neg c] at h
        rw [Int32.le_iff_toInt_le, eW, h3] at c
        have hκW : κ < Wof a u := by omega
        have e1 : (i3 + 1).toInt = ((κ + 1 : Nat) : Int) := by rw [zi_inc (n := 40) (by omega) (by omega), h3]; rfl
        obtain ⟨r1, w2, y1, h⟩ := h
        obtain ⟨f2, hr, hres⟩ := F266 (fe := feF a u) (κ := κ) hS (by rw [hA]; exact hV) (by rw [hA]; exact hu) u1 hp h3 (by rw [hA]; exact hκW) hso (fun x _ => by rw [if_neg (by rw [m1i]; omega), hA]; rfl) (fun x hx => by rw [hA] at hx; have := fb x (by omega); omega) y1
        have era : rmA w u = fun i j => (rmI (Vof a u) D i j).toInt := by
          funext i j
          unfold rmA
          rw [hd, hA]
          rfl
        rw [era, hA] at hr
        have S2 := f2.2.2.2
        have f2o : FM orF orA w w2 := FM_mono f2 (by decide) (by decide)
        have e2 : al w2 = a := by rw [al_FM f2 (by decide), hA]
        have d2 : dR w2 = D := by rw [← hd]; funext q; unfold dR; rw [FM_a f2 (by decide)]
        have ea2 : eaR w2 = e := by rw [← he]; funext q; unfold eaR; rw [FM_a f2 (by decide)]
        have g35 : (gI w2 147 35).toInt = s := by rw [FM_i f2 (by decide)]; exact hs
        rcases hr with ⟨n1, n2⟩ | ⟨m, cc, b1, hm, g23, hel⟩
        · have rq : r1 = some (.int 0) := by
            rcases hres with ⟨_, q⟩ | ⟨q, _⟩
            · exact q
            · omega
          have h := h _ rq S2
          rw [if_pos rfl] at h
          obtain ⟨a1, a2, a3⟩ := ih k (Nat.lt_succ_self k) (κ + 1) s w2 D e _ _ _ S2 e2 d2 e1 (by omega) ⟨D, s, e, hO, Or.inl ⟨n2, rfl, rfl, rfl⟩⟩ g35 ea2 h
          exact ⟨a1, FM_trans f2o a2, a3⟩
        · have rq : r1 = some (.int 1) := by
            rcases hres with ⟨q, _⟩ | ⟨_, q⟩
            · omega
            · exact q
          have h := h _ rq S2
          rw [if_neg (by decide +kernel)] at h
          have h := use_p S2 h (fun _ _ y => F224w (c := 2) S2 u1 hp h3 (by omega) two32 (by decide) y)
          rw [e2] at h
          have h := h _ rfl
          have f7 : FM [(147, 35)] [] w2 (sI w2 147 35 (gI w2 147 35 ||| (1 <<< (i3 &&& 31)))) := FM_sI S2 (by decide)
          obtain ⟨w7, hw7⟩ : ∃ w7, w7 = sI w2 147 35 (gI w2 147 35 ||| (1 <<< (i3 &&& 31))) := ⟨_, rfl⟩
          have g7 : gI w7 147 35 = gI w2 147 35 ||| (1 <<< (i3 &&& 31)) := by rw [hw7]; exact gI_sI (SK_isF S2 (by decide +kernel))
          rw [← hw7] at h f7
          have S7 := f7.2.2.2
          have hE9 : ∀ i, i < m → elN (wAf a u κ) (wBf a u κ) m cc i < 9 := fun i hi => by have := (hel i hi).2; omega
          obtain ⟨k', w9, v5, l1, f9, d9, ea9, h⟩ := F305_79 (a := a) (E := elN (wAf a u κ) (wBf a u κ) m cc) (D := D) (e := e) hp u1 hm (by rw [FM_i f7 (by decide)]; exact g23) (fun i hi => ⟨by rw [FM_a f7 (by decide)]; exact (hel i hi).1, hE9 i hi⟩) (by rw [al_FM f7 (by decide)]; exact e2) k 0 w7 0 (FM_refl S7) z32 (Nat.zero_le _) (by rw [← d2]; funext q; unfold dR; rw [FM_a f7 (by decide)]; rfl) (by rw [← ea2]; funext q; unfold eaR; rw [FM_a f7 (by decide)]; rfl) h
          have S9 := f9.2.2.2
          obtain ⟨a1, a2, a3⟩ := ih k' (by omega) (κ + 1) (2 ^ κ + s) w9 (adD (obE (elN (wAf a u κ) (wBf a u κ) m cc)) m (wtP a u κ 2) m D) (eaU (fun p => a (694 + 132 * u + p)) (wtP a u κ 2) (elN (wAf a u κ) (wBf a u κ) m cc) e m) _ _ _ S9 (by rw [al_FM f9 (by decide), al_FM f7 (by decide)]; exact e2) d9 e1 (by omega) ⟨D, s, e, hO, Or.inr ⟨m, cc, b1, rfl, rfl, rfl⟩⟩ (by
            rw [FM_i f9 (by simp), g7]
            exact or_pow h3 (by omega) g35 sl) ea9 h
          exact ⟨a1, FM_trans f2o (FM_trans (FM_mono f7 (by decide) (by decide)) (FM_trans (FM_mono f9 (by intro p hp; cases hp) (by decide)) a2)), a3⟩
theorem F305 (hS : SK w) (hA : al w = a) (hd : dR w = D0) (hV : VAa a) (hu : u < (a 0).toInt.toNat) (u1 : u ≤ 1) (hp : p1.toInt = (610 + 132 * u : Nat)) (hso : okSo p2) (h : PS X k 305 0 [.ref 147, .int p1, .int p2, pm_dead, pm_dead, pm_dead] [] w r w') : r = none ∧ FM orF orA w w' ∧ OBr a u p2 D0 w' := by
  cases k with
  | zero => exact (PS_0 h).elim
  | succ k =>
    have h := U305_0 hS h _ rfl
    have f1 : FM orF orA w (sI w 147 35 0) := FM_sI hS (by decide)
    have S1 := f1.2.2.2
    have g1 : gI (sI w 147 35 0) 147 35 = 0 := gI_sI (SK_isF hS (by decide +kernel))
    have lp : ∀ (k t : Nat) (wk : pm_W) (i3 : Int32), FM [] [166] (sI w 147 35 0) wk → i3.toInt = t → t ≤ 9 → (∀ q, q < t → (gA wk 166).getD q 0 = 0) → PS X k 305 7 [.ref 147, .int p1, .int p2, .int i3, pm_dead, pm_dead] [] wk r w' → r = none ∧ FM orF orA w w' ∧ OBr a u p2 D0 w' := by
      intro k
      induction k with
      | zero => intro t wk i3 _ _ _ _ h; exact (PS_0 h).elim
      | succ k ih =>
        intro t wk i3 fm h3 ht hz h
        have S2 : SK wk := fm.2.2.2
        have h := U305_7 S2 h
        by_cases c : 9 ≤ i3
        · rw [if_pos c] at h
          rw [Int32.le_iff_toInt_le, show (9 : Int32).toInt = 9 from nine32, h3] at c
          have fk : FM orF orA w wk := FM_trans f1 (FM_mono fm (by intro p hp; cases hp) (by decide))
          obtain ⟨b1, b2, b3⟩ := F305_l (D0 := D0) hV hu u1 hp hso k 0 0 wk D0 (fun _ => 0) 0 _ _ S2 (by rw [al_FM fk (by decide)]; exact hA) (by
            rw [← hd]
            funext q
            unfold dR
            rw [FM_a fm (by decide), gA_sI]) z32 (Nat.zero_le _) ⟨rfl, rfl, rfl⟩ (by rw [FM_i fm (by simp), g1]; exact z32) (by
            funext q
            show (gA wk 166).getD q 0 = 0
            by_cases c9 : q < 9
            · exact hz q (by omega)
            · rw [List.getD_eq_getElem?_getD, List.getElem?_eq_none (by rw [l166 S2]; omega)]
              rfl) h
          exact ⟨b1, FM_trans fk b2, b3⟩
        · rw [if_neg c] at h
          rw [Int32.le_iff_toInt_le, show (9 : Int32).toInt = 9 from nine32, h3] at c
          obtain ⟨_, h⟩ := h
          have h := h _ rfl
          have es := eaR_s (x := 0) S2 h3 (show t < 9 by omega)
          refine ih (t + 1) _ _ (FM_trans fm (FM_aS S2 (by decide))) (by rw [zi_inc (n := 40) (by omega) (by omega), h3]; rfl) (by omega) (fun q hq => ?_) h
          show eaR (aS wk 166 i3 0) q = 0
          rw [es]
          unfold updc
          by_cases e : q = t
          · rw [if_pos e]
          · rw [if_neg e]; exact hz q (by omega)
    exact lp k 0 _ 0 (FM_refl S1) z32 (Nat.zero_le _) (fun q hq => absurd hq (Nat.not_lt_zero q)) h
/-- the worth of a set, whatever is owed -/
theorem F288g (hS : SK w) (hu : u ≤ 1) (hW : (al w (611 + 132 * u)).toInt = N) (hW7 : N ≤ 7) (hp : p1.toInt = (610 + 132 * u : Nat)) (hwb : ∀ κ, κ < N → 0 ≤ (wtP (al w) u κ 3).toInt ∧ (wtP (al w) u κ 3).toInt ≤ 99) (h2 : p2.toInt = s) (hs : s < 128) (h : PS X k 288 0 [.ref 147, .int p1, .int p2, pm_dead, pm_dead] [] w r w') : ∃ z : Int32, z.toInt = vlS (fun κ => wtP (al w) u κ 3) N s ∧ r = some (.int z) ∧ w' = w := by
  have hm := MSK_set h2 hs
  have eW : (aG w 148 (p1 + 1)).toInt = N := by
    rw [aG_n (m := 611 + 132 * u) (by rw [zi_add hp o32 (by omega) (by omega)]; omega)]
    exact hW
  have lp : ∀ (k t : Nat) (i3 i4 : Int32), i4.toInt = t → t ≤ N → i3.toInt = vlS (fun κ => wtP (al w) u κ 3) t s → PS X k 288 5 [.ref 147, .int p1, .int p2, .int i3, .int i4] [] w r w' → ∃ z : Int32, z.toInt = vlS (fun κ => wtP (al w) u κ 3) N s ∧ r = some (.int z) ∧ w' = w := by
    intro k
    induction k with
    | zero => intro t i3 i4 _ _ _ h; exact (PS_0 h).elim
    | succ k ih =>
      intro t i3 i4 h4 ht h3 h
      obtain ⟨_, h⟩ := U288_5 hS h
      by_cases c : aG w 148 (p1 + 1) ≤ i4
      · rw [if_pos c] at h
        rw [Int32.le_iff_toInt_le, eW, h4] at c
        have e : t = N := by omega
        rw [e] at h3
        exact ⟨i3, h3, h.1, h.2⟩
      · rw [if_neg c] at h
        rw [Int32.le_iff_toInt_le, eW, h4] at c
        have h := use_p hS h (fun _ _ y => F224w (c := 3) hS hu hp h4 (by omega) three32 (by decide) y)
        obtain ⟨b1, b2⟩ := vlS_b (s := s) hwb t (by omega)
        obtain ⟨b3, b4⟩ := hwb t (by omega)
        have es : vlS (fun κ => wtP (al w) u κ 3) (t + 1) s = vlS (fun κ => wtP (al w) u κ 3) t s + (if s.testBit t = true then (wtP (al w) u t 3).toInt else 0) := rfl
        have ev : (((p2 >>> (i4 &&& 31)) &&& 1) * wtP (al w) u t 3).toInt = if s.testBit t = true then (wtP (al w) u t 3).toInt else 0 := by
          cases hb : s.testBit t with
          | true =>
            rw [(MSK_t hm h4 (by omega) (by decide)).mpr hb, if_pos rfl, zi_mul o32 rfl (by omega) (by omega)]
            omega
          | false =>
            rw [(MSK_f hm h4 (by omega) (by decide)).mpr hb, if_neg Bool.false_ne_true, zi_mul z32 rfl (by omega) (by omega)]
            omega
        refine ih (t + 1) _ _ (by rw [zi_inc (n := 40) (by omega) (by omega), h4]; rfl) (by omega) ?_ h
        rw [es, zi_add h3 ev (by split <;> omega) (by split <;> omega)]
  cases k with
  | zero => exact (PS_0 h).elim
  | succ k => exact lp k 0 0 0 z32 (Nat.zero_le _) z32 (U288_0 hS h)
end JXA
